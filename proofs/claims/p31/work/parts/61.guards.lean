/-! ===== the law's guards: the class's exceptions become codes ===== -/
def zcd (cs : List Int32) (r : Nat × Int32) : Int32 := if r.1 = 0 then r.2 else cs.getD (r.1 - 1) 0
theorem zcl_L_40 : Cond.classLink RL 40 "java/lang/IllegalArgumentException" ∈ zALL := zin (List.mem_append_right _ (List.mem_of_getElem? (i := 507) (by decide +kernel))) rfl
theorem zca_40 : Cond.castable "java/lang/IllegalArgumentException" "java/lang/IllegalArgumentException" ∈ lw_tbl := List.mem_append_right _ (List.mem_of_getElem? (i := 518) (by decide +kernel))
theorem zcl_L_53 : Cond.classLink RL 53 "java/lang/IndexOutOfBoundsException" ∈ zALL := zin (List.mem_append_right _ (List.mem_of_getElem? (i := 903) (by decide +kernel))) rfl
theorem zca_53 : Cond.castable "java/lang/IndexOutOfBoundsException" "java/lang/IndexOutOfBoundsException" ∈ lw_tbl := List.mem_append_right _ (List.mem_of_getElem? (i := 916) (by decide +kernel))
theorem zcl_L_63 : Cond.classLink RL 63 "java/util/NoSuchElementException" ∈ zALL := zin (List.mem_append_right _ (List.mem_of_getElem? (i := 904) (by decide +kernel))) rfl
theorem zca_63 : Cond.castable "java/util/NoSuchElementException" "java/util/NoSuchElementException" ∈ lw_tbl := List.mem_append_right _ (List.mem_of_getElem? (i := 938) (by decide +kernel))
theorem zcl_L_96 : Cond.classLink RL 96 "java/lang/IllegalStateException" ∈ zALL := zin (List.mem_append_right _ (List.mem_of_getElem? (i := 1052) (by decide +kernel))) rfl
theorem zca_96 : Cond.castable "java/lang/IllegalStateException" "java/lang/IllegalStateException" ∈ lw_tbl := List.mem_append_right _ (List.mem_of_getElem? (i := 1063) (by decide +kernel))
abbrev zrm_L_state : Room := { frames := 9, cells := 1, slots := 6, locals := 141 }
set_option maxRecDepth 20000 in
theorem zL_state {l : Launch} {D : va_G} {b0 : Nat} {tA : Nat → ClassId} {sa sv : Nat → Nat} {K : zKt} {I : zI} {Qp : zI → Option AV → Prop} {F9 : zI} {x f : Nat} {t : Nat → Nat} {er : Int32} {S : zS} {U : List zS} {v : Int32}
    (hC : zCl F9 I x t f er S U) (k : Qp I (some (vi (zcd [(-2000000098 : Int32)] (rState S v))))) :
    zC l D b0 tA sa sv K yL_state (.codeWith yL_state cL_state 3 (some .int) [(0, 5, 6, 40)]) zrm_L_state [vr x 7, vi v] I Qp (fun _ _ => False) := by
  refine zCW_of (by decide +kernel) (Nat.le_of_ble_eq_true rfl) ?_
  intro p e s m args below meth c X ht
  have X : zX p l e zrm_L_state s m args below meth c RL cL_state 3 (some .int) D b0 tA sa sv := X
  refine zr_lv (lv2 := [some (vr x 7), some (vi v), none]) rfl ?_
  refine zr_aload0 X dL_state_0 ?_
  refine zr_iload1 X dL_state_1 ?_
  refine zr_callVX X zm_L_43 (rm9 := zrm_X7_state) (As := [vi v]) (st := []) (Xp' := fun E J => J = I ∧ (((rState S v).1 = 1 ∧ E = "java/lang/IllegalArgumentException"))) rfl rfl ⟨by decide, Nat.le_of_ble_eq_true rfl⟩ ⟨by decide, by decide⟩ (Nat.le_of_ble_eq_true rfl) dL_state_2 (fun E J hx => ?_) ?_
  · obtain ⟨rfl, hx⟩ := hx
    rcases hx with ⟨h, rfl⟩
    · refine zr_caught X ht (hpc := 6) (i := 2) (len := 1) ⟨[], ⟨0, 5, 6, 40⟩, [], "java/lang/IllegalArgumentException", rfl, (fun z hz => nomatch hz), rfl, by decide, zcl_L_40, zca_40, rfl⟩ (by decide) ?_ (Or.inl ⟨2, rfl, dL_state_6, rfl⟩) ?_
      · intro j hj w hw
        obtain rfl : j = 1 := by omega
        cases hw; rfl
      refine zr_ldc (v := -2000000098) X dL_state_7 zk_L_42 ?_
      refine zr_iret X (by decide) (by decide) dL_state_9 ?_
      have hn : ¬ (rState S v).1 = 0 := by rw [h]; decide
      have k9 := k
      have e9 : zcd [(-2000000098 : Int32)] (rState S v) = -2000000098 := by unfold zcd; rw [if_neg hn, h]; rfl
      rw [e9] at k9; exact k9
  · refine zq_X7_state hC (fun h => ?_) (fun h => ⟨rfl, ⟨h, rfl⟩⟩)
    refine zr_iret X (by decide) (by decide) dL_state_5 ?_
    have k9 := k
    have e9 : zcd [(-2000000098 : Int32)] (rState S v) = (rState S v).2 := by unfold zcd; rw [if_pos h]
    rw [e9] at k9; exact k9
abbrev zrm_L_find : Room := { frames := 10, cells := 1, slots := 6, locals := 162 }
set_option maxRecDepth 20000 in
theorem zL_find {l : Launch} {D : va_G} {b0 : Nat} {tA : Nat → ClassId} {sa sv : Nat → Nat} {K : zKt} {I : zI} {Qp : zI → Option AV → Prop} {F9 : zI} {x f : Nat} {t : Nat → Nat} {er : Int32} {S : zS} {U : List zS} {v : Int32}
    (hC : zCl F9 I x t f er S U) (k : Qp I (some (vi (zcd [(-2000000098 : Int32)] (rFind S t f v))))) :
    zC l D b0 tA sa sv K yL_find (.codeWith yL_find cL_find 3 (some .int) [(0, 5, 6, 40)]) zrm_L_find [vr x 7, vi v] I Qp (fun _ _ => False) := by
  refine zCW_of (by decide +kernel) (Nat.le_of_ble_eq_true rfl) ?_
  intro p e s m args below meth c X ht
  have X : zX p l e zrm_L_find s m args below meth c RL cL_find 3 (some .int) D b0 tA sa sv := X
  refine zr_lv (lv2 := [some (vr x 7), some (vi v), none]) rfl ?_
  refine zr_aload0 X dL_find_0 ?_
  refine zr_iload1 X dL_find_1 ?_
  refine zr_callVX X zm_L_46 (rm9 := zrm_X7_find) (As := [vi v]) (st := []) (Xp' := fun E J => J = I ∧ (((rFind S t f v).1 = 1 ∧ E = "java/lang/IllegalArgumentException"))) rfl rfl ⟨by decide, Nat.le_of_ble_eq_true rfl⟩ ⟨by decide, by decide⟩ (Nat.le_of_ble_eq_true rfl) dL_find_2 (fun E J hx => ?_) ?_
  · obtain ⟨rfl, hx⟩ := hx
    rcases hx with ⟨h, rfl⟩
    · refine zr_caught X ht (hpc := 6) (i := 2) (len := 1) ⟨[], ⟨0, 5, 6, 40⟩, [], "java/lang/IllegalArgumentException", rfl, (fun z hz => nomatch hz), rfl, by decide, zcl_L_40, zca_40, rfl⟩ (by decide) ?_ (Or.inl ⟨2, rfl, dL_find_6, rfl⟩) ?_
      · intro j hj w hw
        obtain rfl : j = 1 := by omega
        cases hw; rfl
      refine zr_ldc (v := -2000000098) X dL_find_7 zk_L_42 ?_
      refine zr_iret X (by decide) (by decide) dL_find_9 ?_
      have hn : ¬ (rFind S t f v).1 = 0 := by rw [h]; decide
      have k9 := k
      have e9 : zcd [(-2000000098 : Int32)] (rFind S t f v) = -2000000098 := by unfold zcd; rw [if_neg hn, h]; rfl
      rw [e9] at k9; exact k9
  · refine zq_X7_find hC (fun h => ?_) (fun h => ⟨rfl, ⟨h, rfl⟩⟩)
    refine zr_iret X (by decide) (by decide) dL_find_5 ?_
    have k9 := k
    have e9 : zcd [(-2000000098 : Int32)] (rFind S t f v) = (rFind S t f v).2 := by unfold zcd; rw [if_pos h]
    rw [e9] at k9; exact k9
abbrev zrm_L_gate : Room := { frames := 10, cells := 2, slots := 12, locals := 163 }
set_option maxRecDepth 20000 in
theorem zL_gate {l : Launch} {D : va_G} {b0 : Nat} {tA : Nat → ClassId} {sa sv : Nat → Nat} {K : zKt} {I : zI} {Qp : zI → Option AV → Prop} {F9 : zI} {x f : Nat} {t : Nat → Nat} {er : Int32} {S : zS} {U : List zS} {u v : Int32}
    (hC : zCl F9 I x t f er S U) (k : Qp I (some (vi (zcd [(-2000000097 : Int32), (-2000000098 : Int32)] (rGate S u v))))) :
    zC l D b0 tA sa sv K yL_gate (.codeWith yL_gate cL_gate 4 (some .int) [(0, 6, 7, 53), (0, 6, 11, 40)]) zrm_L_gate [vr x 7, vi u, vi v] I Qp (fun _ _ => False) := by
  refine zCW_of (by decide +kernel) (Nat.le_of_ble_eq_true rfl) ?_
  intro p e s m args below meth c X ht
  have X : zX p l e zrm_L_gate s m args below meth c RL cL_gate 4 (some .int) D b0 tA sa sv := X
  refine zr_lv (lv2 := [some (vr x 7), some (vi u), some (vi v), none]) rfl ?_
  refine zr_aload0 X dL_gate_0 ?_
  refine zr_iload1 X dL_gate_1 ?_
  refine zr_iload2 X dL_gate_2 ?_
  refine zr_callVX X zm_L_49 (rm9 := zrm_X7_gate) (As := [vi u, vi v]) (st := []) (Xp' := fun E J => J = I ∧ (((rGate S u v).1 = 1 ∧ E = "java/lang/IndexOutOfBoundsException") ∨ ((rGate S u v).1 = 2 ∧ E = "java/lang/IllegalArgumentException"))) rfl rfl ⟨by decide, Nat.le_of_ble_eq_true rfl⟩ ⟨by decide, by decide⟩ (Nat.le_of_ble_eq_true rfl) dL_gate_3 (fun E J hx => ?_) ?_
  · obtain ⟨rfl, hx⟩ := hx
    rcases hx with ⟨h, rfl⟩ | ⟨h, rfl⟩
    · refine zr_caught X ht (hpc := 7) (i := 3) (len := 1) ⟨[], ⟨0, 6, 7, 53⟩, [⟨0, 6, 11, 40⟩], "java/lang/IndexOutOfBoundsException", rfl, (fun z hz => nomatch hz), rfl, by decide, zcl_L_53, zca_53, rfl⟩ (by decide) ?_ (Or.inl ⟨3, rfl, dL_gate_7, rfl⟩) ?_
      · intro j hj w hw
        obtain rfl : j = 2 := by omega
        cases hw; rfl
      refine zr_ldc (v := -2000000097) X dL_gate_8 zk_L_55 ?_
      refine zr_iret X (by decide) (by decide) dL_gate_10 ?_
      have hn : ¬ (rGate S u v).1 = 0 := by rw [h]; decide
      have k9 := k
      have e9 : zcd [(-2000000097 : Int32), (-2000000098 : Int32)] (rGate S u v) = -2000000097 := by unfold zcd; rw [if_neg hn, h]; rfl
      rw [e9] at k9; exact k9
    · refine zr_caught X ht (hpc := 11) (i := 3) (len := 1) ⟨[⟨0, 6, 7, 53⟩], ⟨0, 6, 11, 40⟩, [], "java/lang/IllegalArgumentException", rfl, (fun z hz => by
        simp only [List.mem_cons, List.not_mem_nil, or_false] at hz
        rcases hz with rfl
        · exact ⟨by decide, _, zcl_L_53, List.mem_of_getElem? (i := 53) rfl⟩), rfl, by decide, zcl_L_40, zca_40, rfl⟩ (by decide) ?_ (Or.inl ⟨3, rfl, dL_gate_11, rfl⟩) ?_
      · intro j hj w hw
        obtain rfl : j = 2 := by omega
        cases hw; rfl
      refine zr_ldc (v := -2000000098) X dL_gate_12 zk_L_42 ?_
      refine zr_iret X (by decide) (by decide) dL_gate_14 ?_
      have hn : ¬ (rGate S u v).1 = 0 := by rw [h]; decide
      have k9 := k
      have e9 : zcd [(-2000000097 : Int32), (-2000000098 : Int32)] (rGate S u v) = -2000000098 := by unfold zcd; rw [if_neg hn, h]; rfl
      rw [e9] at k9; exact k9
  · refine zq_X7_gate hC (fun h => ?_) (fun h => ⟨rfl, Or.inl ⟨h, rfl⟩⟩) (fun h => ⟨rfl, Or.inr (⟨h, rfl⟩)⟩)
    refine zr_iret X (by decide) (by decide) dL_gate_6 ?_
    have k9 := k
    have e9 : zcd [(-2000000097 : Int32), (-2000000098 : Int32)] (rGate S u v) = (rGate S u v).2 := by unfold zcd; rw [if_pos h]
    rw [e9] at k9; exact k9
abbrev zrm_L_card : Room := { frames := 10, cells := 2, slots := 12, locals := 163 }
set_option maxRecDepth 20000 in
theorem zL_card {l : Launch} {D : va_G} {b0 : Nat} {tA : Nat → ClassId} {sa sv : Nat → Nat} {K : zKt} {I : zI} {Qp : zI → Option AV → Prop} {F9 : zI} {x f : Nat} {t : Nat → Nat} {er : Int32} {S : zS} {U : List zS} {u v : Int32}
    (hC : zCl F9 I x t f er S U) (k : Qp I (some (vi (zcd [(-2000000097 : Int32), (-2000000098 : Int32)] (rCard S u v))))) :
    zC l D b0 tA sa sv K yL_card (.codeWith yL_card cL_card 4 (some .int) [(0, 6, 7, 53), (0, 6, 11, 40)]) zrm_L_card [vr x 7, vi u, vi v] I Qp (fun _ _ => False) := by
  refine zCW_of (by decide +kernel) (Nat.le_of_ble_eq_true rfl) ?_
  intro p e s m args below meth c X ht
  have X : zX p l e zrm_L_card s m args below meth c RL cL_card 4 (some .int) D b0 tA sa sv := X
  refine zr_lv (lv2 := [some (vr x 7), some (vi u), some (vi v), none]) rfl ?_
  refine zr_aload0 X dL_card_0 ?_
  refine zr_iload1 X dL_card_1 ?_
  refine zr_iload2 X dL_card_2 ?_
  refine zr_callVX X zm_L_56 (rm9 := zrm_X7_card) (As := [vi u, vi v]) (st := []) (Xp' := fun E J => J = I ∧ (((rCard S u v).1 = 1 ∧ E = "java/lang/IndexOutOfBoundsException") ∨ ((rCard S u v).1 = 2 ∧ E = "java/lang/IllegalArgumentException"))) rfl rfl ⟨by decide, Nat.le_of_ble_eq_true rfl⟩ ⟨by decide, by decide⟩ (Nat.le_of_ble_eq_true rfl) dL_card_3 (fun E J hx => ?_) ?_
  · obtain ⟨rfl, hx⟩ := hx
    rcases hx with ⟨h, rfl⟩ | ⟨h, rfl⟩
    · refine zr_caught X ht (hpc := 7) (i := 3) (len := 1) ⟨[], ⟨0, 6, 7, 53⟩, [⟨0, 6, 11, 40⟩], "java/lang/IndexOutOfBoundsException", rfl, (fun z hz => nomatch hz), rfl, by decide, zcl_L_53, zca_53, rfl⟩ (by decide) ?_ (Or.inl ⟨3, rfl, dL_card_7, rfl⟩) ?_
      · intro j hj w hw
        obtain rfl : j = 2 := by omega
        cases hw; rfl
      refine zr_ldc (v := -2000000097) X dL_card_8 zk_L_55 ?_
      refine zr_iret X (by decide) (by decide) dL_card_10 ?_
      have hn : ¬ (rCard S u v).1 = 0 := by rw [h]; decide
      have k9 := k
      have e9 : zcd [(-2000000097 : Int32), (-2000000098 : Int32)] (rCard S u v) = -2000000097 := by unfold zcd; rw [if_neg hn, h]; rfl
      rw [e9] at k9; exact k9
    · refine zr_caught X ht (hpc := 11) (i := 3) (len := 1) ⟨[⟨0, 6, 7, 53⟩], ⟨0, 6, 11, 40⟩, [], "java/lang/IllegalArgumentException", rfl, (fun z hz => by
        simp only [List.mem_cons, List.not_mem_nil, or_false] at hz
        rcases hz with rfl
        · exact ⟨by decide, _, zcl_L_53, List.mem_of_getElem? (i := 53) rfl⟩), rfl, by decide, zcl_L_40, zca_40, rfl⟩ (by decide) ?_ (Or.inl ⟨3, rfl, dL_card_11, rfl⟩) ?_
      · intro j hj w hw
        obtain rfl : j = 2 := by omega
        cases hw; rfl
      refine zr_ldc (v := -2000000098) X dL_card_12 zk_L_42 ?_
      refine zr_iret X (by decide) (by decide) dL_card_14 ?_
      have hn : ¬ (rCard S u v).1 = 0 := by rw [h]; decide
      have k9 := k
      have e9 : zcd [(-2000000097 : Int32), (-2000000098 : Int32)] (rCard S u v) = -2000000098 := by unfold zcd; rw [if_neg hn, h]; rfl
      rw [e9] at k9; exact k9
  · refine zq_X7_card hC (fun h => ?_) (fun h => ⟨rfl, Or.inl ⟨h, rfl⟩⟩) (fun h => ⟨rfl, Or.inr (⟨h, rfl⟩)⟩)
    refine zr_iret X (by decide) (by decide) dL_card_6 ?_
    have k9 := k
    have e9 : zcd [(-2000000097 : Int32), (-2000000098 : Int32)] (rCard S u v) = (rCard S u v).2 := by unfold zcd; rw [if_pos h]
    rw [e9] at k9; exact k9
abbrev zrm_L_inLine : Room := { frames := 10, cells := 3, slots := 18, locals := 165 }
set_option maxRecDepth 20000 in
theorem zL_inLine {l : Launch} {D : va_G} {b0 : Nat} {tA : Nat → ClassId} {sa sv : Nat → Nat} {K : zKt} {I : zI} {Qp : zI → Option AV → Prop} {F9 : zI} {x f : Nat} {t : Nat → Nat} {er : Int32} {S : zS} {U : List zS} {u v v3 : Int32}
    (hC : zCl F9 I x t f er S U) (k : Qp I (some (vi (zcd [(-2000000097 : Int32), (-2000000098 : Int32), (-2000000100 : Int32)] (rInLine S u v v3))))) :
    zC l D b0 tA sa sv K yL_inLine (.codeWith yL_inLine cL_inLine 5 (some .int) [(0, 7, 8, 53), (0, 7, 13, 40), (0, 7, 18, 63)]) zrm_L_inLine [vr x 7, vi u, vi v, vi v3] I Qp (fun _ _ => False) := by
  refine zCW_of (by decide +kernel) (Nat.le_of_ble_eq_true rfl) ?_
  intro p e s m args below meth c X ht
  have X : zX p l e zrm_L_inLine s m args below meth c RL cL_inLine 5 (some .int) D b0 tA sa sv := X
  refine zr_lv (lv2 := [some (vr x 7), some (vi u), some (vi v), some (vi v3), none]) rfl ?_
  refine zr_aload0 X dL_inLine_0 ?_
  refine zr_iload1 X dL_inLine_1 ?_
  refine zr_iload2 X dL_inLine_2 ?_
  refine zr_iload3 X dL_inLine_3 ?_
  refine zr_callVX X zm_L_59 (rm9 := zrm_X7_inLine) (As := [vi u, vi v, vi v3]) (st := []) (Xp' := fun E J => J = I ∧ (((rInLine S u v v3).1 = 1 ∧ E = "java/lang/IndexOutOfBoundsException") ∨ ((rInLine S u v v3).1 = 2 ∧ E = "java/lang/IllegalArgumentException") ∨ ((rInLine S u v v3).1 = 3 ∧ E = "java/util/NoSuchElementException"))) rfl rfl ⟨by decide, Nat.le_of_ble_eq_true rfl⟩ ⟨by decide, by decide⟩ (Nat.le_of_ble_eq_true rfl) dL_inLine_4 (fun E J hx => ?_) ?_
  · obtain ⟨rfl, hx⟩ := hx
    rcases hx with ⟨h, rfl⟩ | ⟨h, rfl⟩ | ⟨h, rfl⟩
    · refine zr_caught X ht (hpc := 8) (i := 4) (len := 2) ⟨[], ⟨0, 7, 8, 53⟩, [⟨0, 7, 13, 40⟩, ⟨0, 7, 18, 63⟩], "java/lang/IndexOutOfBoundsException", rfl, (fun z hz => nomatch hz), rfl, by decide, zcl_L_53, zca_53, rfl⟩ (by decide) ?_ (Or.inr ⟨dL_inLine_8, rfl⟩) ?_
      · intro j hj w hw
        obtain rfl : j = 3 := by omega
        cases hw; rfl
      refine zr_ldc (v := -2000000097) X dL_inLine_10 zk_L_55 ?_
      refine zr_iret X (by decide) (by decide) dL_inLine_12 ?_
      have hn : ¬ (rInLine S u v v3).1 = 0 := by rw [h]; decide
      have k9 := k
      have e9 : zcd [(-2000000097 : Int32), (-2000000098 : Int32), (-2000000100 : Int32)] (rInLine S u v v3) = -2000000097 := by unfold zcd; rw [if_neg hn, h]; rfl
      rw [e9] at k9; exact k9
    · refine zr_caught X ht (hpc := 13) (i := 4) (len := 2) ⟨[⟨0, 7, 8, 53⟩], ⟨0, 7, 13, 40⟩, [⟨0, 7, 18, 63⟩], "java/lang/IllegalArgumentException", rfl, (fun z hz => by
        simp only [List.mem_cons, List.not_mem_nil, or_false] at hz
        rcases hz with rfl
        · exact ⟨by decide, _, zcl_L_53, List.mem_of_getElem? (i := 53) rfl⟩), rfl, by decide, zcl_L_40, zca_40, rfl⟩ (by decide) ?_ (Or.inr ⟨dL_inLine_13, rfl⟩) ?_
      · intro j hj w hw
        obtain rfl : j = 3 := by omega
        cases hw; rfl
      refine zr_ldc (v := -2000000098) X dL_inLine_15 zk_L_42 ?_
      refine zr_iret X (by decide) (by decide) dL_inLine_17 ?_
      have hn : ¬ (rInLine S u v v3).1 = 0 := by rw [h]; decide
      have k9 := k
      have e9 : zcd [(-2000000097 : Int32), (-2000000098 : Int32), (-2000000100 : Int32)] (rInLine S u v v3) = -2000000098 := by unfold zcd; rw [if_neg hn, h]; rfl
      rw [e9] at k9; exact k9
    · refine zr_caught X ht (hpc := 18) (i := 4) (len := 2) ⟨[⟨0, 7, 8, 53⟩, ⟨0, 7, 13, 40⟩], ⟨0, 7, 18, 63⟩, [], "java/util/NoSuchElementException", rfl, (fun z hz => by
        simp only [List.mem_cons, List.not_mem_nil, or_false] at hz
        rcases hz with rfl | rfl
        · exact ⟨by decide, _, zcl_L_53, List.mem_of_getElem? (i := 63) rfl⟩
        · exact ⟨by decide, _, zcl_L_40, List.mem_of_getElem? (i := 61) rfl⟩), rfl, by decide, zcl_L_63, zca_63, rfl⟩ (by decide) ?_ (Or.inr ⟨dL_inLine_18, rfl⟩) ?_
      · intro j hj w hw
        obtain rfl : j = 3 := by omega
        cases hw; rfl
      refine zr_ldc (v := -2000000100) X dL_inLine_20 zk_L_65 ?_
      refine zr_iret X (by decide) (by decide) dL_inLine_22 ?_
      have hn : ¬ (rInLine S u v v3).1 = 0 := by rw [h]; decide
      have k9 := k
      have e9 : zcd [(-2000000097 : Int32), (-2000000098 : Int32), (-2000000100 : Int32)] (rInLine S u v v3) = -2000000100 := by unfold zcd; rw [if_neg hn, h]; rfl
      rw [e9] at k9; exact k9
  · refine zq_X7_inLine hC (fun h => ?_) (fun h => ⟨rfl, Or.inl ⟨h, rfl⟩⟩) (fun h => ⟨rfl, Or.inr (Or.inl ⟨h, rfl⟩)⟩) (fun h => ⟨rfl, Or.inr (Or.inr (⟨h, rfl⟩))⟩)
    refine zr_iret X (by decide) (by decide) dL_inLine_7 ?_
    have k9 := k
    have e9 : zcd [(-2000000097 : Int32), (-2000000098 : Int32), (-2000000100 : Int32)] (rInLine S u v v3) = (rInLine S u v v3).2 := by unfold zcd; rw [if_pos h]
    rw [e9] at k9; exact k9
abbrev zrm_L_why : Room := { frames := 10, cells := 2, slots := 12, locals := 163 }
set_option maxRecDepth 20000 in
theorem zL_why {l : Launch} {D : va_G} {b0 : Nat} {tA : Nat → ClassId} {sa sv : Nat → Nat} {K : zKt} {I : zI} {Qp : zI → Option AV → Prop} {F9 : zI} {x f : Nat} {t : Nat → Nat} {er : Int32} {S : zS} {U : List zS} {u v : Int32}
    (hC : zCl F9 I x t f er S U) (k : Qp I (some (vi (zcd [(-2000000097 : Int32), (-2000000098 : Int32)] (rWhy S u v))))) :
    zC l D b0 tA sa sv K yL_why (.codeWith yL_why cL_why 4 (some .int) [(0, 6, 7, 53), (0, 6, 11, 40)]) zrm_L_why [vr x 7, vi u, vi v] I Qp (fun _ _ => False) := by
  refine zCW_of (by decide +kernel) (Nat.le_of_ble_eq_true rfl) ?_
  intro p e s m args below meth c X ht
  have X : zX p l e zrm_L_why s m args below meth c RL cL_why 4 (some .int) D b0 tA sa sv := X
  refine zr_lv (lv2 := [some (vr x 7), some (vi u), some (vi v), none]) rfl ?_
  refine zr_aload0 X dL_why_0 ?_
  refine zr_iload1 X dL_why_1 ?_
  refine zr_iload2 X dL_why_2 ?_
  refine zr_callVX X zm_L_66 (rm9 := zrm_X7_why) (As := [vi u, vi v]) (st := []) (Xp' := fun E J => J = I ∧ (((rWhy S u v).1 = 1 ∧ E = "java/lang/IndexOutOfBoundsException") ∨ ((rWhy S u v).1 = 2 ∧ E = "java/lang/IllegalArgumentException"))) rfl rfl ⟨by decide, Nat.le_of_ble_eq_true rfl⟩ ⟨by decide, by decide⟩ (Nat.le_of_ble_eq_true rfl) dL_why_3 (fun E J hx => ?_) ?_
  · obtain ⟨rfl, hx⟩ := hx
    rcases hx with ⟨h, rfl⟩ | ⟨h, rfl⟩
    · refine zr_caught X ht (hpc := 7) (i := 3) (len := 1) ⟨[], ⟨0, 6, 7, 53⟩, [⟨0, 6, 11, 40⟩], "java/lang/IndexOutOfBoundsException", rfl, (fun z hz => nomatch hz), rfl, by decide, zcl_L_53, zca_53, rfl⟩ (by decide) ?_ (Or.inl ⟨3, rfl, dL_why_7, rfl⟩) ?_
      · intro j hj w hw
        obtain rfl : j = 2 := by omega
        cases hw; rfl
      refine zr_ldc (v := -2000000097) X dL_why_8 zk_L_55 ?_
      refine zr_iret X (by decide) (by decide) dL_why_10 ?_
      have hn : ¬ (rWhy S u v).1 = 0 := by rw [h]; decide
      have k9 := k
      have e9 : zcd [(-2000000097 : Int32), (-2000000098 : Int32)] (rWhy S u v) = -2000000097 := by unfold zcd; rw [if_neg hn, h]; rfl
      rw [e9] at k9; exact k9
    · refine zr_caught X ht (hpc := 11) (i := 3) (len := 1) ⟨[⟨0, 6, 7, 53⟩], ⟨0, 6, 11, 40⟩, [], "java/lang/IllegalArgumentException", rfl, (fun z hz => by
        simp only [List.mem_cons, List.not_mem_nil, or_false] at hz
        rcases hz with rfl
        · exact ⟨by decide, _, zcl_L_53, List.mem_of_getElem? (i := 53) rfl⟩), rfl, by decide, zcl_L_40, zca_40, rfl⟩ (by decide) ?_ (Or.inl ⟨3, rfl, dL_why_11, rfl⟩) ?_
      · intro j hj w hw
        obtain rfl : j = 2 := by omega
        cases hw; rfl
      refine zr_ldc (v := -2000000098) X dL_why_12 zk_L_42 ?_
      refine zr_iret X (by decide) (by decide) dL_why_14 ?_
      have hn : ¬ (rWhy S u v).1 = 0 := by rw [h]; decide
      have k9 := k
      have e9 : zcd [(-2000000097 : Int32), (-2000000098 : Int32)] (rWhy S u v) = -2000000098 := by unfold zcd; rw [if_neg hn, h]; rfl
      rw [e9] at k9; exact k9
  · refine zq_X7_why hC (fun h => ?_) (fun h => ⟨rfl, Or.inl ⟨h, rfl⟩⟩) (fun h => ⟨rfl, Or.inr (⟨h, rfl⟩)⟩)
    refine zr_iret X (by decide) (by decide) dL_why_6 ?_
    have k9 := k
    have e9 : zcd [(-2000000097 : Int32), (-2000000098 : Int32)] (rWhy S u v) = (rWhy S u v).2 := by unfold zcd; rw [if_pos h]
    rw [e9] at k9; exact k9
abbrev zrm_L_whyNotJoin : Room := { frames := 10, cells := 3, slots := 18, locals := 164 }
set_option maxRecDepth 20000 in
theorem zL_whyNotJoin {l : Launch} {D : va_G} {b0 : Nat} {tA : Nat → ClassId} {sa sv : Nat → Nat} {K : zKt} {I : zI} {Qp : zI → Option AV → Prop} {F9 : zI} {x f : Nat} {t : Nat → Nat} {er : Int32} {S : zS} {U : List zS} {u v v3 : Int32}
    (hC : zCl F9 I x t f er S U) (k : Qp I (some (vi (zcd [(-2000000097 : Int32), (-2000000098 : Int32)] (rWhyJoin S u v v3))))) :
    zC l D b0 tA sa sv K yL_whyNotJoin (.codeWith yL_whyNotJoin cL_whyNotJoin 5 (some .int) [(0, 7, 8, 53), (0, 7, 13, 40)]) zrm_L_whyNotJoin [vr x 7, vi u, vi v, vi v3] I Qp (fun _ _ => False) := by
  refine zCW_of (by decide +kernel) (Nat.le_of_ble_eq_true rfl) ?_
  intro p e s m args below meth c X ht
  have X : zX p l e zrm_L_whyNotJoin s m args below meth c RL cL_whyNotJoin 5 (some .int) D b0 tA sa sv := X
  refine zr_lv (lv2 := [some (vr x 7), some (vi u), some (vi v), some (vi v3), none]) rfl ?_
  refine zr_aload0 X dL_whyNotJoin_0 ?_
  refine zr_iload1 X dL_whyNotJoin_1 ?_
  refine zr_iload2 X dL_whyNotJoin_2 ?_
  refine zr_iload3 X dL_whyNotJoin_3 ?_
  refine zr_callVX X zm_L_69 (rm9 := zrm_X7_whyNotJoin) (As := [vi u, vi v, vi v3]) (st := []) (Xp' := fun E J => J = I ∧ (((rWhyJoin S u v v3).1 = 1 ∧ E = "java/lang/IndexOutOfBoundsException") ∨ ((rWhyJoin S u v v3).1 = 2 ∧ E = "java/lang/IllegalArgumentException"))) rfl rfl ⟨by decide, Nat.le_of_ble_eq_true rfl⟩ ⟨by decide, by decide⟩ (Nat.le_of_ble_eq_true rfl) dL_whyNotJoin_4 (fun E J hx => ?_) ?_
  · obtain ⟨rfl, hx⟩ := hx
    rcases hx with ⟨h, rfl⟩ | ⟨h, rfl⟩
    · refine zr_caught X ht (hpc := 8) (i := 4) (len := 2) ⟨[], ⟨0, 7, 8, 53⟩, [⟨0, 7, 13, 40⟩], "java/lang/IndexOutOfBoundsException", rfl, (fun z hz => nomatch hz), rfl, by decide, zcl_L_53, zca_53, rfl⟩ (by decide) ?_ (Or.inr ⟨dL_whyNotJoin_8, rfl⟩) ?_
      · intro j hj w hw
        obtain rfl : j = 3 := by omega
        cases hw; rfl
      refine zr_ldc (v := -2000000097) X dL_whyNotJoin_10 zk_L_55 ?_
      refine zr_iret X (by decide) (by decide) dL_whyNotJoin_12 ?_
      have hn : ¬ (rWhyJoin S u v v3).1 = 0 := by rw [h]; decide
      have k9 := k
      have e9 : zcd [(-2000000097 : Int32), (-2000000098 : Int32)] (rWhyJoin S u v v3) = -2000000097 := by unfold zcd; rw [if_neg hn, h]; rfl
      rw [e9] at k9; exact k9
    · refine zr_caught X ht (hpc := 13) (i := 4) (len := 2) ⟨[⟨0, 7, 8, 53⟩], ⟨0, 7, 13, 40⟩, [], "java/lang/IllegalArgumentException", rfl, (fun z hz => by
        simp only [List.mem_cons, List.not_mem_nil, or_false] at hz
        rcases hz with rfl
        · exact ⟨by decide, _, zcl_L_53, List.mem_of_getElem? (i := 53) rfl⟩), rfl, by decide, zcl_L_40, zca_40, rfl⟩ (by decide) ?_ (Or.inr ⟨dL_whyNotJoin_13, rfl⟩) ?_
      · intro j hj w hw
        obtain rfl : j = 3 := by omega
        cases hw; rfl
      refine zr_ldc (v := -2000000098) X dL_whyNotJoin_15 zk_L_42 ?_
      refine zr_iret X (by decide) (by decide) dL_whyNotJoin_17 ?_
      have hn : ¬ (rWhyJoin S u v v3).1 = 0 := by rw [h]; decide
      have k9 := k
      have e9 : zcd [(-2000000097 : Int32), (-2000000098 : Int32)] (rWhyJoin S u v v3) = -2000000098 := by unfold zcd; rw [if_neg hn, h]; rfl
      rw [e9] at k9; exact k9
  · refine zq_X7_whyNotJoin hC (fun h => ?_) (fun h => ⟨rfl, Or.inl ⟨h, rfl⟩⟩) (fun h => ⟨rfl, Or.inr (⟨h, rfl⟩)⟩)
    refine zr_iret X (by decide) (by decide) dL_whyNotJoin_7 ?_
    have k9 := k
    have e9 : zcd [(-2000000097 : Int32), (-2000000098 : Int32)] (rWhyJoin S u v v3) = (rWhyJoin S u v v3).2 := by unfold zcd; rw [if_pos h]
    rw [e9] at k9; exact k9
abbrev zrm_L_bestGate : Room := { frames := 10, cells := 1, slots := 6, locals := 165 }
set_option maxRecDepth 20000 in
theorem zL_bestGate {l : Launch} {D : va_G} {b0 : Nat} {tA : Nat → ClassId} {sa sv : Nat → Nat} {K : zKt} {I : zI} {Qp : zI → Option AV → Prop} {F9 : zI} {x f : Nat} {t : Nat → Nat} {er : Int32} {S : zS} {U : List zS} {v : Int32}
    (hC : zCl F9 I x t f er S U) (k : Qp I (some (vi (zcd [(-2000000098 : Int32)] (rBest S v))))) :
    zC l D b0 tA sa sv K yL_bestGate (.codeWith yL_bestGate cL_bestGate 3 (some .int) [(0, 5, 6, 40)]) zrm_L_bestGate [vr x 7, vi v] I Qp (fun _ _ => False) := by
  refine zCW_of (by decide +kernel) (Nat.le_of_ble_eq_true rfl) ?_
  intro p e s m args below meth c X ht
  have X : zX p l e zrm_L_bestGate s m args below meth c RL cL_bestGate 3 (some .int) D b0 tA sa sv := X
  refine zr_lv (lv2 := [some (vr x 7), some (vi v), none]) rfl ?_
  refine zr_aload0 X dL_bestGate_0 ?_
  refine zr_iload1 X dL_bestGate_1 ?_
  refine zr_callVX X zm_L_72 (rm9 := zrm_X7_bestGate) (As := [vi v]) (st := []) (Xp' := fun E J => J = I ∧ (((rBest S v).1 = 1 ∧ E = "java/lang/IllegalArgumentException"))) rfl rfl ⟨by decide, Nat.le_of_ble_eq_true rfl⟩ ⟨by decide, by decide⟩ (Nat.le_of_ble_eq_true rfl) dL_bestGate_2 (fun E J hx => ?_) ?_
  · obtain ⟨rfl, hx⟩ := hx
    rcases hx with ⟨h, rfl⟩
    · refine zr_caught X ht (hpc := 6) (i := 2) (len := 1) ⟨[], ⟨0, 5, 6, 40⟩, [], "java/lang/IllegalArgumentException", rfl, (fun z hz => nomatch hz), rfl, by decide, zcl_L_40, zca_40, rfl⟩ (by decide) ?_ (Or.inl ⟨2, rfl, dL_bestGate_6, rfl⟩) ?_
      · intro j hj w hw
        obtain rfl : j = 1 := by omega
        cases hw; rfl
      refine zr_ldc (v := -2000000098) X dL_bestGate_7 zk_L_42 ?_
      refine zr_iret X (by decide) (by decide) dL_bestGate_9 ?_
      have hn : ¬ (rBest S v).1 = 0 := by rw [h]; decide
      have k9 := k
      have e9 : zcd [(-2000000098 : Int32)] (rBest S v) = -2000000098 := by unfold zcd; rw [if_neg hn, h]; rfl
      rw [e9] at k9; exact k9
  · refine zq_X7_bestGate hC (fun h => ?_) (fun h => ⟨rfl, ⟨h, rfl⟩⟩)
    refine zr_iret X (by decide) (by decide) dL_bestGate_5 ?_
    have k9 := k
    have e9 : zcd [(-2000000098 : Int32)] (rBest S v) = (rBest S v).2 := by unfold zcd; rw [if_pos h]
    rw [e9] at k9; exact k9
abbrev zrm_L_nextSide : Room := { frames := 10, cells := 1, slots := 6, locals := 162 }
set_option maxRecDepth 20000 in
theorem zL_nextSide {l : Launch} {D : va_G} {b0 : Nat} {tA : Nat → ClassId} {sa sv : Nat → Nat} {K : zKt} {I : zI} {Qp : zI → Option AV → Prop} {F9 : zI} {x f : Nat} {t : Nat → Nat} {er : Int32} {S : zS} {U : List zS} {u : Int32}
    (hC : zCl F9 I x t f er S U) (k : Qp I (some (vi (zcd [(-2000000097 : Int32)] (rNext S u))))) :
    zC l D b0 tA sa sv K yL_nextSide (.codeWith yL_nextSide cL_nextSide 3 (some .int) [(0, 5, 6, 53)]) zrm_L_nextSide [vr x 7, vi u] I Qp (fun _ _ => False) := by
  refine zCW_of (by decide +kernel) (Nat.le_of_ble_eq_true rfl) ?_
  intro p e s m args below meth c X ht
  have X : zX p l e zrm_L_nextSide s m args below meth c RL cL_nextSide 3 (some .int) D b0 tA sa sv := X
  refine zr_lv (lv2 := [some (vr x 7), some (vi u), none]) rfl ?_
  refine zr_aload0 X dL_nextSide_0 ?_
  refine zr_iload1 X dL_nextSide_1 ?_
  refine zr_callVX X zm_L_75 (rm9 := zrm_X7_nextSide) (As := [vi u]) (st := []) (Xp' := fun E J => J = I ∧ (((rNext S u).1 = 1 ∧ E = "java/lang/IndexOutOfBoundsException"))) rfl rfl ⟨by decide, Nat.le_of_ble_eq_true rfl⟩ ⟨by decide, by decide⟩ (Nat.le_of_ble_eq_true rfl) dL_nextSide_2 (fun E J hx => ?_) ?_
  · obtain ⟨rfl, hx⟩ := hx
    rcases hx with ⟨h, rfl⟩
    · refine zr_caught X ht (hpc := 6) (i := 2) (len := 1) ⟨[], ⟨0, 5, 6, 53⟩, [], "java/lang/IndexOutOfBoundsException", rfl, (fun z hz => nomatch hz), rfl, by decide, zcl_L_53, zca_53, rfl⟩ (by decide) ?_ (Or.inl ⟨2, rfl, dL_nextSide_6, rfl⟩) ?_
      · intro j hj w hw
        obtain rfl : j = 1 := by omega
        cases hw; rfl
      refine zr_ldc (v := -2000000097) X dL_nextSide_7 zk_L_55 ?_
      refine zr_iret X (by decide) (by decide) dL_nextSide_9 ?_
      have hn : ¬ (rNext S u).1 = 0 := by rw [h]; decide
      have k9 := k
      have e9 : zcd [(-2000000097 : Int32)] (rNext S u) = -2000000097 := by unfold zcd; rw [if_neg hn, h]; rfl
      rw [e9] at k9; exact k9
  · refine zq_X7_nextSide hC (fun h => ?_) (fun h => ⟨rfl, ⟨h, rfl⟩⟩)
    refine zr_iret X (by decide) (by decide) dL_nextSide_5 ?_
    have k9 := k
    have e9 : zcd [(-2000000097 : Int32)] (rNext S u) = (rNext S u).2 := by unfold zcd; rw [if_pos h]
    rw [e9] at k9; exact k9
abbrev zrm_L_throughIn : Room := { frames := 10, cells := 1, slots := 6, locals := 163 }
set_option maxRecDepth 20000 in
theorem zL_throughIn {l : Launch} {D : va_G} {b0 : Nat} {tA : Nat → ClassId} {sa sv : Nat → Nat} {K : zKt} {I : zI} {Qp : zI → Option AV → Prop} {F9 : zI} {x f : Nat} {t : Nat → Nat} {er : Int32} {S : zS} {U : List zS} {v : Int32}
    (hC : zCl F9 I x t f er S U) (k : ∀ J : zI, zCl F9 J x t f er S U → Qp J (some (vi (zcd [(-2000000097 : Int32)] (rThrough S v))))) :
    zC l D b0 tA sa sv K yL_throughIn (.codeWith yL_throughIn cL_throughIn 3 (some .int) [(0, 5, 6, 53)]) zrm_L_throughIn [vr x 7, vi v] I Qp (fun _ _ => False) := by
  refine zCW_of (by decide +kernel) (Nat.le_of_ble_eq_true rfl) ?_
  intro p e s m args below meth c X ht
  have X : zX p l e zrm_L_throughIn s m args below meth c RL cL_throughIn 3 (some .int) D b0 tA sa sv := X
  refine zr_lv (lv2 := [some (vr x 7), some (vi v), none]) rfl ?_
  refine zr_aload0 X dL_throughIn_0 ?_
  refine zr_iload1 X dL_throughIn_1 ?_
  refine zr_callVX X zm_L_78 (rm9 := zrm_X7_throughIn) (As := [vi v]) (st := []) (Xp' := fun E J => J = I ∧ (((rThrough S v).1 = 1 ∧ E = "java/lang/IndexOutOfBoundsException"))) rfl rfl ⟨by decide, Nat.le_of_ble_eq_true rfl⟩ ⟨by decide, by decide⟩ (Nat.le_of_ble_eq_true rfl) dL_throughIn_2 (fun E J hx => ?_) ?_
  · obtain ⟨rfl, hx⟩ := hx
    rcases hx with ⟨h, rfl⟩
    · refine zr_caught X ht (hpc := 6) (i := 2) (len := 1) ⟨[], ⟨0, 5, 6, 53⟩, [], "java/lang/IndexOutOfBoundsException", rfl, (fun z hz => nomatch hz), rfl, by decide, zcl_L_53, zca_53, rfl⟩ (by decide) ?_ (Or.inl ⟨2, rfl, dL_throughIn_6, rfl⟩) ?_
      · intro j hj w hw
        obtain rfl : j = 1 := by omega
        cases hw; rfl
      refine zr_ldc (v := -2000000097) X dL_throughIn_7 zk_L_55 ?_
      refine zr_iret X (by decide) (by decide) dL_throughIn_9 ?_
      have hn : ¬ (rThrough S v).1 = 0 := by rw [h]; decide
      have k9 := k _ hC
      have e9 : zcd [(-2000000097 : Int32)] (rThrough S v) = -2000000097 := by unfold zcd; rw [if_neg hn, h]; rfl
      rw [e9] at k9; exact k9
  · refine zq_X7_throughIn hC (fun h J hJ => ?_) (fun h => ⟨rfl, ⟨h, rfl⟩⟩)
    refine zr_iret X (by decide) (by decide) dL_throughIn_5 ?_
    have k9 := k _ hJ
    have e9 : zcd [(-2000000097 : Int32)] (rThrough S v) = (rThrough S v).2 := by unfold zcd; rw [if_pos h]
    rw [e9] at k9; exact k9
abbrev zrm_L_insideIn : Room := { frames := 10, cells := 1, slots := 6, locals := 162 }
set_option maxRecDepth 20000 in
theorem zL_insideIn {l : Launch} {D : va_G} {b0 : Nat} {tA : Nat → ClassId} {sa sv : Nat → Nat} {K : zKt} {I : zI} {Qp : zI → Option AV → Prop} {F9 : zI} {x f : Nat} {t : Nat → Nat} {er : Int32} {S : zS} {U : List zS} {v : Int32}
    (hC : zCl F9 I x t f er S U) (k : ∀ J : zI, zCl F9 J x t f er S U → Qp J (some (vi (zcd [(-2000000098 : Int32)] (rInside S v))))) :
    zC l D b0 tA sa sv K yL_insideIn (.codeWith yL_insideIn cL_insideIn 3 (some .int) [(0, 5, 6, 40)]) zrm_L_insideIn [vr x 7, vi v] I Qp (fun _ _ => False) := by
  refine zCW_of (by decide +kernel) (Nat.le_of_ble_eq_true rfl) ?_
  intro p e s m args below meth c X ht
  have X : zX p l e zrm_L_insideIn s m args below meth c RL cL_insideIn 3 (some .int) D b0 tA sa sv := X
  refine zr_lv (lv2 := [some (vr x 7), some (vi v), none]) rfl ?_
  refine zr_aload0 X dL_insideIn_0 ?_
  refine zr_iload1 X dL_insideIn_1 ?_
  refine zr_callVX X zm_L_81 (rm9 := zrm_X7_insideIn) (As := [vi v]) (st := []) (Xp' := fun E J => J = I ∧ (((rInside S v).1 = 1 ∧ E = "java/lang/IllegalArgumentException"))) rfl rfl ⟨by decide, Nat.le_of_ble_eq_true rfl⟩ ⟨by decide, by decide⟩ (Nat.le_of_ble_eq_true rfl) dL_insideIn_2 (fun E J hx => ?_) ?_
  · obtain ⟨rfl, hx⟩ := hx
    rcases hx with ⟨h, rfl⟩
    · refine zr_caught X ht (hpc := 6) (i := 2) (len := 1) ⟨[], ⟨0, 5, 6, 40⟩, [], "java/lang/IllegalArgumentException", rfl, (fun z hz => nomatch hz), rfl, by decide, zcl_L_40, zca_40, rfl⟩ (by decide) ?_ (Or.inl ⟨2, rfl, dL_insideIn_6, rfl⟩) ?_
      · intro j hj w hw
        obtain rfl : j = 1 := by omega
        cases hw; rfl
      refine zr_ldc (v := -2000000098) X dL_insideIn_7 zk_L_42 ?_
      refine zr_iret X (by decide) (by decide) dL_insideIn_9 ?_
      have hn : ¬ (rInside S v).1 = 0 := by rw [h]; decide
      have k9 := k _ hC
      have e9 : zcd [(-2000000098 : Int32)] (rInside S v) = -2000000098 := by unfold zcd; rw [if_neg hn, h]; rfl
      rw [e9] at k9; exact k9
  · refine zq_X7_insideIn hC (fun h J hJ => ?_) (fun h => ⟨rfl, ⟨h, rfl⟩⟩)
    refine zr_iret X (by decide) (by decide) dL_insideIn_5 ?_
    have k9 := k _ hJ
    have e9 : zcd [(-2000000098 : Int32)] (rInside S v) = (rInside S v).2 := by unfold zcd; rw [if_pos h]
    rw [e9] at k9; exact k9
abbrev zrm_L_followersIn : Room := { frames := 10, cells := 1, slots := 6, locals := 162 }
set_option maxRecDepth 20000 in
theorem zL_followersIn {l : Launch} {D : va_G} {b0 : Nat} {tA : Nat → ClassId} {sa sv : Nat → Nat} {K : zKt} {I : zI} {Qp : zI → Option AV → Prop} {F9 : zI} {x f : Nat} {t : Nat → Nat} {er : Int32} {S : zS} {U : List zS} {v : Int32}
    (hC : zCl F9 I x t f er S U) (k : ∀ J : zI, zCl F9 J x t f er S U → Qp J (some (vi (zcd [(-2000000098 : Int32)] (rFollow S v))))) :
    zC l D b0 tA sa sv K yL_followersIn (.codeWith yL_followersIn cL_followersIn 3 (some .int) [(0, 5, 6, 40)]) zrm_L_followersIn [vr x 7, vi v] I Qp (fun _ _ => False) := by
  refine zCW_of (by decide +kernel) (Nat.le_of_ble_eq_true rfl) ?_
  intro p e s m args below meth c X ht
  have X : zX p l e zrm_L_followersIn s m args below meth c RL cL_followersIn 3 (some .int) D b0 tA sa sv := X
  refine zr_lv (lv2 := [some (vr x 7), some (vi v), none]) rfl ?_
  refine zr_aload0 X dL_followersIn_0 ?_
  refine zr_iload1 X dL_followersIn_1 ?_
  refine zr_callVX X zm_L_84 (rm9 := zrm_X7_followersIn) (As := [vi v]) (st := []) (Xp' := fun E J => J = I ∧ (((rFollow S v).1 = 1 ∧ E = "java/lang/IllegalArgumentException"))) rfl rfl ⟨by decide, Nat.le_of_ble_eq_true rfl⟩ ⟨by decide, by decide⟩ (Nat.le_of_ble_eq_true rfl) dL_followersIn_2 (fun E J hx => ?_) ?_
  · obtain ⟨rfl, hx⟩ := hx
    rcases hx with ⟨h, rfl⟩
    · refine zr_caught X ht (hpc := 6) (i := 2) (len := 1) ⟨[], ⟨0, 5, 6, 40⟩, [], "java/lang/IllegalArgumentException", rfl, (fun z hz => nomatch hz), rfl, by decide, zcl_L_40, zca_40, rfl⟩ (by decide) ?_ (Or.inl ⟨2, rfl, dL_followersIn_6, rfl⟩) ?_
      · intro j hj w hw
        obtain rfl : j = 1 := by omega
        cases hw; rfl
      refine zr_ldc (v := -2000000098) X dL_followersIn_7 zk_L_42 ?_
      refine zr_iret X (by decide) (by decide) dL_followersIn_9 ?_
      have hn : ¬ (rFollow S v).1 = 0 := by rw [h]; decide
      have k9 := k _ hC
      have e9 : zcd [(-2000000098 : Int32)] (rFollow S v) = -2000000098 := by unfold zcd; rw [if_neg hn, h]; rfl
      rw [e9] at k9; exact k9
  · refine zq_X7_followersIn hC (fun h J hJ => ?_) (fun h => ⟨rfl, ⟨h, rfl⟩⟩)
    refine zr_iret X (by decide) (by decide) dL_followersIn_5 ?_
    have k9 := k _ hJ
    have e9 : zcd [(-2000000098 : Int32)] (rFollow S v) = (rFollow S v).2 := by unfold zcd; rw [if_pos h]
    rw [e9] at k9; exact k9
abbrev zrm_L_ranked : Room := { frames := 9, cells := 1, slots := 6, locals := 142 }
set_option maxRecDepth 20000 in
theorem zL_ranked {l : Launch} {D : va_G} {b0 : Nat} {tA : Nat → ClassId} {sa sv : Nat → Nat} {K : zKt} {I : zI} {Qp : zI → Option AV → Prop} {F9 : zI} {x f : Nat} {t : Nat → Nat} {er : Int32} {S : zS} {U : List zS} {v : Int32}
    (hC : zCl F9 I x t f er S U) (k : Qp I (some (vi (zcd [(-2000000100 : Int32)] (rRank S v))))) :
    zC l D b0 tA sa sv K yL_ranked (.codeWith yL_ranked cL_ranked 3 (some .int) [(0, 5, 6, 63)]) zrm_L_ranked [vr x 7, vi v] I Qp (fun _ _ => False) := by
  refine zCW_of (by decide +kernel) (Nat.le_of_ble_eq_true rfl) ?_
  intro p e s m args below meth c X ht
  have X : zX p l e zrm_L_ranked s m args below meth c RL cL_ranked 3 (some .int) D b0 tA sa sv := X
  refine zr_lv (lv2 := [some (vr x 7), some (vi v), none]) rfl ?_
  refine zr_aload0 X dL_ranked_0 ?_
  refine zr_iload1 X dL_ranked_1 ?_
  refine zr_callVX X zm_L_87 (rm9 := zrm_X7_ranked) (As := [vi v]) (st := []) (Xp' := fun E J => J = I ∧ (((rRank S v).1 = 1 ∧ E = "java/util/NoSuchElementException"))) rfl rfl ⟨by decide, Nat.le_of_ble_eq_true rfl⟩ ⟨by decide, by decide⟩ (Nat.le_of_ble_eq_true rfl) dL_ranked_2 (fun E J hx => ?_) ?_
  · obtain ⟨rfl, hx⟩ := hx
    rcases hx with ⟨h, rfl⟩
    · refine zr_caught X ht (hpc := 6) (i := 2) (len := 1) ⟨[], ⟨0, 5, 6, 63⟩, [], "java/util/NoSuchElementException", rfl, (fun z hz => nomatch hz), rfl, by decide, zcl_L_63, zca_63, rfl⟩ (by decide) ?_ (Or.inl ⟨2, rfl, dL_ranked_6, rfl⟩) ?_
      · intro j hj w hw
        obtain rfl : j = 1 := by omega
        cases hw; rfl
      refine zr_ldc (v := -2000000100) X dL_ranked_7 zk_L_65 ?_
      refine zr_iret X (by decide) (by decide) dL_ranked_9 ?_
      have hn : ¬ (rRank S v).1 = 0 := by rw [h]; decide
      have k9 := k
      have e9 : zcd [(-2000000100 : Int32)] (rRank S v) = -2000000100 := by unfold zcd; rw [if_neg hn, h]; rfl
      rw [e9] at k9; exact k9
  · refine zq_X7_ranked hC (fun h => ?_) (fun h => ⟨rfl, ⟨h, rfl⟩⟩)
    refine zr_iret X (by decide) (by decide) dL_ranked_5 ?_
    have k9 := k
    have e9 : zcd [(-2000000100 : Int32)] (rRank S v) = (rRank S v).2 := by unfold zcd; rw [if_pos h]
    rw [e9] at k9; exact k9
abbrev zrm_L_join : Room := { frames := 10, cells := 3, slots := 18, locals := 166 }
set_option maxRecDepth 20000 in
theorem zL_join {l : Launch} {D : va_G} {b0 : Nat} {tA : Nat → ClassId} {sa sv : Nat → Nat} {K : zKt} {I : zI} {Qp : zI → Option AV → Prop} {F9 : zI} {x f : Nat} {t : Nat → Nat} {er : Int32} {S : zS} {U : List zS} {u v v3 : Int32}
    (hC : zCl F9 I x t f er S U) (k : ∀ J : zI, zCl F9 J x t f er (if (rJoin S u v v3).1 = 0 then sJoin S u v v3 else S) (if (rJoin S u v v3).1 = 0 then qPush S U else U) → Qp J (some (vi (zcd [(-2000000097 : Int32), (-2000000098 : Int32)] (rJoin S u v v3))))) :
    zC l D b0 tA sa sv K yL_join (.codeWith yL_join cL_join 5 (some .int) [(0, 7, 8, 53), (0, 7, 13, 40)]) zrm_L_join [vr x 7, vi u, vi v, vi v3] I Qp (fun _ _ => False) := by
  refine zCW_of (by decide +kernel) (Nat.le_of_ble_eq_true rfl) ?_
  intro p e s m args below meth c X ht
  have X : zX p l e zrm_L_join s m args below meth c RL cL_join 5 (some .int) D b0 tA sa sv := X
  refine zr_lv (lv2 := [some (vr x 7), some (vi u), some (vi v), some (vi v3), none]) rfl ?_
  refine zr_aload0 X dL_join_0 ?_
  refine zr_iload1 X dL_join_1 ?_
  refine zr_iload2 X dL_join_2 ?_
  refine zr_iload3 X dL_join_3 ?_
  refine zr_callVX X zm_L_90 (rm9 := zrm_X7_join) (As := [vi u, vi v, vi v3]) (st := []) (Xp' := fun E J => J = I ∧ (((rJoin S u v v3).1 = 1 ∧ E = "java/lang/IndexOutOfBoundsException") ∨ ((rJoin S u v v3).1 = 2 ∧ E = "java/lang/IllegalArgumentException"))) rfl rfl ⟨by decide, Nat.le_of_ble_eq_true rfl⟩ ⟨by decide, by decide⟩ (Nat.le_of_ble_eq_true rfl) dL_join_4 (fun E J hx => ?_) ?_
  · obtain ⟨rfl, hx⟩ := hx
    rcases hx with ⟨h, rfl⟩ | ⟨h, rfl⟩
    · refine zr_caught X ht (hpc := 8) (i := 4) (len := 2) ⟨[], ⟨0, 7, 8, 53⟩, [⟨0, 7, 13, 40⟩], "java/lang/IndexOutOfBoundsException", rfl, (fun z hz => nomatch hz), rfl, by decide, zcl_L_53, zca_53, rfl⟩ (by decide) ?_ (Or.inr ⟨dL_join_8, rfl⟩) ?_
      · intro j hj w hw
        obtain rfl : j = 3 := by omega
        cases hw; rfl
      refine zr_ldc (v := -2000000097) X dL_join_10 zk_L_55 ?_
      refine zr_iret X (by decide) (by decide) dL_join_12 ?_
      have hn : ¬ (rJoin S u v v3).1 = 0 := by rw [h]; decide
      simp only [if_neg hn] at k
      have k9 := k _ hC
      have e9 : zcd [(-2000000097 : Int32), (-2000000098 : Int32)] (rJoin S u v v3) = -2000000097 := by unfold zcd; rw [if_neg hn, h]; rfl
      rw [e9] at k9; exact k9
    · refine zr_caught X ht (hpc := 13) (i := 4) (len := 2) ⟨[⟨0, 7, 8, 53⟩], ⟨0, 7, 13, 40⟩, [], "java/lang/IllegalArgumentException", rfl, (fun z hz => by
        simp only [List.mem_cons, List.not_mem_nil, or_false] at hz
        rcases hz with rfl
        · exact ⟨by decide, _, zcl_L_53, List.mem_of_getElem? (i := 53) rfl⟩), rfl, by decide, zcl_L_40, zca_40, rfl⟩ (by decide) ?_ (Or.inr ⟨dL_join_13, rfl⟩) ?_
      · intro j hj w hw
        obtain rfl : j = 3 := by omega
        cases hw; rfl
      refine zr_ldc (v := -2000000098) X dL_join_15 zk_L_42 ?_
      refine zr_iret X (by decide) (by decide) dL_join_17 ?_
      have hn : ¬ (rJoin S u v v3).1 = 0 := by rw [h]; decide
      simp only [if_neg hn] at k
      have k9 := k _ hC
      have e9 : zcd [(-2000000097 : Int32), (-2000000098 : Int32)] (rJoin S u v v3) = -2000000098 := by unfold zcd; rw [if_neg hn, h]; rfl
      rw [e9] at k9; exact k9
  · refine zq_X7_join hC (fun h J hJ => ?_) (fun h => ⟨rfl, Or.inl ⟨h, rfl⟩⟩) (fun h => ⟨rfl, Or.inr (⟨h, rfl⟩)⟩)
    refine zr_iret X (by decide) (by decide) dL_join_7 ?_
    simp only [if_pos h] at k
    have k9 := k _ hJ
    have e9 : zcd [(-2000000097 : Int32), (-2000000098 : Int32)] (rJoin S u v v3) = (rJoin S u v v3).2 := by unfold zcd; rw [if_pos h]
    rw [e9] at k9; exact k9
abbrev zrm_L_leave : Room := { frames := 10, cells := 3, slots := 18, locals := 165 }
set_option maxRecDepth 20000 in
theorem zL_leave {l : Launch} {D : va_G} {b0 : Nat} {tA : Nat → ClassId} {sa sv : Nat → Nat} {K : zKt} {I : zI} {Qp : zI → Option AV → Prop} {F9 : zI} {x f : Nat} {t : Nat → Nat} {er : Int32} {S : zS} {U : List zS} {u v v3 : Int32}
    (hC : zCl F9 I x t f er S U) (k : ∀ J : zI, zCl F9 J x t f er (if (rLeave S u v v3).1 = 0 then sLeave S u v v3 else S) (if (rLeave S u v v3).1 = 0 then qPush S U else U) → Qp J (some (vi (zcd [(-2000000097 : Int32), (-2000000098 : Int32), (-2000000100 : Int32), (-2000000099 : Int32)] (rLeave S u v v3))))) :
    zC l D b0 tA sa sv K yL_leave (.codeWith yL_leave cL_leave 5 (some .int) [(0, 7, 8, 53), (0, 7, 13, 40), (0, 7, 18, 63), (0, 7, 23, 96)]) zrm_L_leave [vr x 7, vi u, vi v, vi v3] I Qp (fun _ _ => False) := by
  refine zCW_of (by decide +kernel) (Nat.le_of_ble_eq_true rfl) ?_
  intro p e s m args below meth c X ht
  have X : zX p l e zrm_L_leave s m args below meth c RL cL_leave 5 (some .int) D b0 tA sa sv := X
  refine zr_lv (lv2 := [some (vr x 7), some (vi u), some (vi v), some (vi v3), none]) rfl ?_
  refine zr_aload0 X dL_leave_0 ?_
  refine zr_iload1 X dL_leave_1 ?_
  refine zr_iload2 X dL_leave_2 ?_
  refine zr_iload3 X dL_leave_3 ?_
  refine zr_callVX X zm_L_93 (rm9 := zrm_X7_leave) (As := [vi u, vi v, vi v3]) (st := []) (Xp' := fun E J => J = I ∧ (((rLeave S u v v3).1 = 1 ∧ E = "java/lang/IndexOutOfBoundsException") ∨ ((rLeave S u v v3).1 = 2 ∧ E = "java/lang/IllegalArgumentException") ∨ ((rLeave S u v v3).1 = 3 ∧ E = "java/util/NoSuchElementException") ∨ ((rLeave S u v v3).1 = 4 ∧ E = "java/lang/IllegalStateException"))) rfl rfl ⟨by decide, Nat.le_of_ble_eq_true rfl⟩ ⟨by decide, by decide⟩ (Nat.le_of_ble_eq_true rfl) dL_leave_4 (fun E J hx => ?_) ?_
  · obtain ⟨rfl, hx⟩ := hx
    rcases hx with ⟨h, rfl⟩ | ⟨h, rfl⟩ | ⟨h, rfl⟩ | ⟨h, rfl⟩
    · refine zr_caught X ht (hpc := 8) (i := 4) (len := 2) ⟨[], ⟨0, 7, 8, 53⟩, [⟨0, 7, 13, 40⟩, ⟨0, 7, 18, 63⟩, ⟨0, 7, 23, 96⟩], "java/lang/IndexOutOfBoundsException", rfl, (fun z hz => nomatch hz), rfl, by decide, zcl_L_53, zca_53, rfl⟩ (by decide) ?_ (Or.inr ⟨dL_leave_8, rfl⟩) ?_
      · intro j hj w hw
        obtain rfl : j = 3 := by omega
        cases hw; rfl
      refine zr_ldc (v := -2000000097) X dL_leave_10 zk_L_55 ?_
      refine zr_iret X (by decide) (by decide) dL_leave_12 ?_
      have hn : ¬ (rLeave S u v v3).1 = 0 := by rw [h]; decide
      simp only [if_neg hn] at k
      have k9 := k _ hC
      have e9 : zcd [(-2000000097 : Int32), (-2000000098 : Int32), (-2000000100 : Int32), (-2000000099 : Int32)] (rLeave S u v v3) = -2000000097 := by unfold zcd; rw [if_neg hn, h]; rfl
      rw [e9] at k9; exact k9
    · refine zr_caught X ht (hpc := 13) (i := 4) (len := 2) ⟨[⟨0, 7, 8, 53⟩], ⟨0, 7, 13, 40⟩, [⟨0, 7, 18, 63⟩, ⟨0, 7, 23, 96⟩], "java/lang/IllegalArgumentException", rfl, (fun z hz => by
        simp only [List.mem_cons, List.not_mem_nil, or_false] at hz
        rcases hz with rfl
        · exact ⟨by decide, _, zcl_L_53, List.mem_of_getElem? (i := 53) rfl⟩), rfl, by decide, zcl_L_40, zca_40, rfl⟩ (by decide) ?_ (Or.inr ⟨dL_leave_13, rfl⟩) ?_
      · intro j hj w hw
        obtain rfl : j = 3 := by omega
        cases hw; rfl
      refine zr_ldc (v := -2000000098) X dL_leave_15 zk_L_42 ?_
      refine zr_iret X (by decide) (by decide) dL_leave_17 ?_
      have hn : ¬ (rLeave S u v v3).1 = 0 := by rw [h]; decide
      simp only [if_neg hn] at k
      have k9 := k _ hC
      have e9 : zcd [(-2000000097 : Int32), (-2000000098 : Int32), (-2000000100 : Int32), (-2000000099 : Int32)] (rLeave S u v v3) = -2000000098 := by unfold zcd; rw [if_neg hn, h]; rfl
      rw [e9] at k9; exact k9
    · refine zr_caught X ht (hpc := 18) (i := 4) (len := 2) ⟨[⟨0, 7, 8, 53⟩, ⟨0, 7, 13, 40⟩], ⟨0, 7, 18, 63⟩, [⟨0, 7, 23, 96⟩], "java/util/NoSuchElementException", rfl, (fun z hz => by
        simp only [List.mem_cons, List.not_mem_nil, or_false] at hz
        rcases hz with rfl | rfl
        · exact ⟨by decide, _, zcl_L_53, List.mem_of_getElem? (i := 63) rfl⟩
        · exact ⟨by decide, _, zcl_L_40, List.mem_of_getElem? (i := 61) rfl⟩), rfl, by decide, zcl_L_63, zca_63, rfl⟩ (by decide) ?_ (Or.inr ⟨dL_leave_18, rfl⟩) ?_
      · intro j hj w hw
        obtain rfl : j = 3 := by omega
        cases hw; rfl
      refine zr_ldc (v := -2000000100) X dL_leave_20 zk_L_65 ?_
      refine zr_iret X (by decide) (by decide) dL_leave_22 ?_
      have hn : ¬ (rLeave S u v v3).1 = 0 := by rw [h]; decide
      simp only [if_neg hn] at k
      have k9 := k _ hC
      have e9 : zcd [(-2000000097 : Int32), (-2000000098 : Int32), (-2000000100 : Int32), (-2000000099 : Int32)] (rLeave S u v v3) = -2000000100 := by unfold zcd; rw [if_neg hn, h]; rfl
      rw [e9] at k9; exact k9
    · refine zr_caught X ht (hpc := 23) (i := 4) (len := 2) ⟨[⟨0, 7, 8, 53⟩, ⟨0, 7, 13, 40⟩, ⟨0, 7, 18, 63⟩], ⟨0, 7, 23, 96⟩, [], "java/lang/IllegalStateException", rfl, (fun z hz => by
        simp only [List.mem_cons, List.not_mem_nil, or_false] at hz
        rcases hz with rfl | rfl | rfl
        · exact ⟨by decide, _, zcl_L_53, List.mem_of_getElem? (i := 56) rfl⟩
        · exact ⟨by decide, _, zcl_L_40, List.mem_of_getElem? (i := 55) rfl⟩
        · exact ⟨by decide, _, zcl_L_63, List.mem_of_getElem? (i := 57) rfl⟩), rfl, by decide, zcl_L_96, zca_96, rfl⟩ (by decide) ?_ (Or.inr ⟨dL_leave_23, rfl⟩) ?_
      · intro j hj w hw
        obtain rfl : j = 3 := by omega
        cases hw; rfl
      refine zr_ldc (v := -2000000099) X dL_leave_25 zk_L_98 ?_
      refine zr_iret X (by decide) (by decide) dL_leave_27 ?_
      have hn : ¬ (rLeave S u v v3).1 = 0 := by rw [h]; decide
      simp only [if_neg hn] at k
      have k9 := k _ hC
      have e9 : zcd [(-2000000097 : Int32), (-2000000098 : Int32), (-2000000100 : Int32), (-2000000099 : Int32)] (rLeave S u v v3) = -2000000099 := by unfold zcd; rw [if_neg hn, h]; rfl
      rw [e9] at k9; exact k9
  · refine zq_X7_leave hC (fun h J hJ => ?_) (fun h => ⟨rfl, Or.inl ⟨h, rfl⟩⟩) (fun h => ⟨rfl, Or.inr (Or.inl ⟨h, rfl⟩)⟩) (fun h => ⟨rfl, Or.inr (Or.inr (Or.inl ⟨h, rfl⟩))⟩) (fun h => ⟨rfl, Or.inr (Or.inr (Or.inr (⟨h, rfl⟩)))⟩)
    refine zr_iret X (by decide) (by decide) dL_leave_7 ?_
    simp only [if_pos h] at k
    have k9 := k _ hJ
    have e9 : zcd [(-2000000097 : Int32), (-2000000098 : Int32), (-2000000100 : Int32), (-2000000099 : Int32)] (rLeave S u v v3) = (rLeave S u v v3).2 := by unfold zcd; rw [if_pos h]
    rw [e9] at k9; exact k9
abbrev zrm_L_list : Room := { frames := 10, cells := 1, slots := 6, locals := 163 }
set_option maxRecDepth 20000 in
theorem zL_list {l : Launch} {D : va_G} {b0 : Nat} {tA : Nat → ClassId} {sa sv : Nat → Nat} {K : zKt} {I : zI} {Qp : zI → Option AV → Prop} {F9 : zI} {x f : Nat} {t : Nat → Nat} {er : Int32} {S : zS} {U : List zS} {u b : Int32}
    (hC : zCl F9 I x t f er S U) (hb : b = 0 ∨ b = 1) (k : ∀ J : zI, zCl F9 J x t f er (if (rList S u b).1 = 0 then sList S u b else S) (if (rList S u b).1 = 0 then qPush S U else U) → Qp J (some (vi (zcd [(-2000000097 : Int32)] (rList S u b))))) :
    zC l D b0 tA sa sv K yL_list (.codeWith yL_list cL_list 4 (some .int) [(0, 6, 7, 53)]) zrm_L_list [vr x 7, vi u, vi b] I Qp (fun _ _ => False) := by
  refine zCW_of (by decide +kernel) (Nat.le_of_ble_eq_true rfl) ?_
  intro p e s m args below meth c X ht
  have X : zX p l e zrm_L_list s m args below meth c RL cL_list 4 (some .int) D b0 tA sa sv := X
  refine zr_lv (lv2 := [some (vr x 7), some (vi u), some (vi b), none]) rfl ?_
  refine zr_aload0 X dL_list_0 ?_
  refine zr_iload1 X dL_list_1 ?_
  refine zr_iload2 X dL_list_2 ?_
  refine zr_callVX X zm_L_99 (rm9 := zrm_X7_list) (As := [vi u, vi b]) (st := []) (Xp' := fun E J => J = I ∧ (((rList S u b).1 = 1 ∧ E = "java/lang/IndexOutOfBoundsException"))) rfl rfl ⟨by decide, Nat.le_of_ble_eq_true rfl⟩ ⟨by decide, by decide⟩ (Nat.le_of_ble_eq_true rfl) dL_list_3 (fun E J hx => ?_) ?_
  · obtain ⟨rfl, hx⟩ := hx
    rcases hx with ⟨h, rfl⟩
    · refine zr_caught X ht (hpc := 7) (i := 3) (len := 1) ⟨[], ⟨0, 6, 7, 53⟩, [], "java/lang/IndexOutOfBoundsException", rfl, (fun z hz => nomatch hz), rfl, by decide, zcl_L_53, zca_53, rfl⟩ (by decide) ?_ (Or.inl ⟨3, rfl, dL_list_7, rfl⟩) ?_
      · intro j hj w hw
        obtain rfl : j = 2 := by omega
        cases hw; rfl
      refine zr_ldc (v := -2000000097) X dL_list_8 zk_L_55 ?_
      refine zr_iret X (by decide) (by decide) dL_list_10 ?_
      have hn : ¬ (rList S u b).1 = 0 := by rw [h]; decide
      simp only [if_neg hn] at k
      have k9 := k _ hC
      have e9 : zcd [(-2000000097 : Int32)] (rList S u b) = -2000000097 := by unfold zcd; rw [if_neg hn, h]; rfl
      rw [e9] at k9; exact k9
  · refine zq_X7_list hC hb (fun h J hJ => ?_) (fun h => ⟨rfl, ⟨h, rfl⟩⟩)
    refine zr_iret X (by decide) (by decide) dL_list_6 ?_
    simp only [if_pos h] at k
    have k9 := k _ hJ
    have e9 : zcd [(-2000000097 : Int32)] (rList S u b) = (rList S u b).2 := by unfold zcd; rw [if_pos h]
    rw [e9] at k9; exact k9
abbrev zrm_L_charge : Room := { frames := 10, cells := 2, slots := 12, locals := 163 }
set_option maxRecDepth 20000 in
theorem zL_charge {l : Launch} {D : va_G} {b0 : Nat} {tA : Nat → ClassId} {sa sv : Nat → Nat} {K : zKt} {I : zI} {Qp : zI → Option AV → Prop} {F9 : zI} {x f : Nat} {t : Nat → Nat} {er : Int32} {S : zS} {U : List zS} {u v : Int32}
    (hC : zCl F9 I x t f er S U) (k : ∀ J : zI, zCl F9 J x t f er (if (rCharge S u v).1 = 0 then sCharge S u v else S) (if (rCharge S u v).1 = 0 then qPush S U else U) → Qp J (some (vi (zcd [(-2000000097 : Int32), (-2000000098 : Int32), (-2000000099 : Int32)] (rCharge S u v))))) :
    zC l D b0 tA sa sv K yL_charge (.codeWith yL_charge cL_charge 4 (some .int) [(0, 6, 7, 53), (0, 6, 11, 40), (0, 6, 15, 96)]) zrm_L_charge [vr x 7, vi u, vi v] I Qp (fun _ _ => False) := by
  refine zCW_of (by decide +kernel) (Nat.le_of_ble_eq_true rfl) ?_
  intro p e s m args below meth c X ht
  have X : zX p l e zrm_L_charge s m args below meth c RL cL_charge 4 (some .int) D b0 tA sa sv := X
  refine zr_lv (lv2 := [some (vr x 7), some (vi u), some (vi v), none]) rfl ?_
  refine zr_aload0 X dL_charge_0 ?_
  refine zr_iload1 X dL_charge_1 ?_
  refine zr_iload2 X dL_charge_2 ?_
  refine zr_callVX X zm_L_103 (rm9 := zrm_X7_charge) (As := [vi u, vi v]) (st := []) (Xp' := fun E J => J = I ∧ (((rCharge S u v).1 = 1 ∧ E = "java/lang/IndexOutOfBoundsException") ∨ ((rCharge S u v).1 = 2 ∧ E = "java/lang/IllegalArgumentException") ∨ ((rCharge S u v).1 = 3 ∧ E = "java/lang/IllegalStateException"))) rfl rfl ⟨by decide, Nat.le_of_ble_eq_true rfl⟩ ⟨by decide, by decide⟩ (Nat.le_of_ble_eq_true rfl) dL_charge_3 (fun E J hx => ?_) ?_
  · obtain ⟨rfl, hx⟩ := hx
    rcases hx with ⟨h, rfl⟩ | ⟨h, rfl⟩ | ⟨h, rfl⟩
    · refine zr_caught X ht (hpc := 7) (i := 3) (len := 1) ⟨[], ⟨0, 6, 7, 53⟩, [⟨0, 6, 11, 40⟩, ⟨0, 6, 15, 96⟩], "java/lang/IndexOutOfBoundsException", rfl, (fun z hz => nomatch hz), rfl, by decide, zcl_L_53, zca_53, rfl⟩ (by decide) ?_ (Or.inl ⟨3, rfl, dL_charge_7, rfl⟩) ?_
      · intro j hj w hw
        obtain rfl : j = 2 := by omega
        cases hw; rfl
      refine zr_ldc (v := -2000000097) X dL_charge_8 zk_L_55 ?_
      refine zr_iret X (by decide) (by decide) dL_charge_10 ?_
      have hn : ¬ (rCharge S u v).1 = 0 := by rw [h]; decide
      simp only [if_neg hn] at k
      have k9 := k _ hC
      have e9 : zcd [(-2000000097 : Int32), (-2000000098 : Int32), (-2000000099 : Int32)] (rCharge S u v) = -2000000097 := by unfold zcd; rw [if_neg hn, h]; rfl
      rw [e9] at k9; exact k9
    · refine zr_caught X ht (hpc := 11) (i := 3) (len := 1) ⟨[⟨0, 6, 7, 53⟩], ⟨0, 6, 11, 40⟩, [⟨0, 6, 15, 96⟩], "java/lang/IllegalArgumentException", rfl, (fun z hz => by
        simp only [List.mem_cons, List.not_mem_nil, or_false] at hz
        rcases hz with rfl
        · exact ⟨by decide, _, zcl_L_53, List.mem_of_getElem? (i := 53) rfl⟩), rfl, by decide, zcl_L_40, zca_40, rfl⟩ (by decide) ?_ (Or.inl ⟨3, rfl, dL_charge_11, rfl⟩) ?_
      · intro j hj w hw
        obtain rfl : j = 2 := by omega
        cases hw; rfl
      refine zr_ldc (v := -2000000098) X dL_charge_12 zk_L_42 ?_
      refine zr_iret X (by decide) (by decide) dL_charge_14 ?_
      have hn : ¬ (rCharge S u v).1 = 0 := by rw [h]; decide
      simp only [if_neg hn] at k
      have k9 := k _ hC
      have e9 : zcd [(-2000000097 : Int32), (-2000000098 : Int32), (-2000000099 : Int32)] (rCharge S u v) = -2000000098 := by unfold zcd; rw [if_neg hn, h]; rfl
      rw [e9] at k9; exact k9
    · refine zr_caught X ht (hpc := 15) (i := 3) (len := 1) ⟨[⟨0, 6, 7, 53⟩, ⟨0, 6, 11, 40⟩], ⟨0, 6, 15, 96⟩, [], "java/lang/IllegalStateException", rfl, (fun z hz => by
        simp only [List.mem_cons, List.not_mem_nil, or_false] at hz
        rcases hz with rfl | rfl
        · exact ⟨by decide, _, zcl_L_53, List.mem_of_getElem? (i := 56) rfl⟩
        · exact ⟨by decide, _, zcl_L_40, List.mem_of_getElem? (i := 55) rfl⟩), rfl, by decide, zcl_L_96, zca_96, rfl⟩ (by decide) ?_ (Or.inl ⟨3, rfl, dL_charge_15, rfl⟩) ?_
      · intro j hj w hw
        obtain rfl : j = 2 := by omega
        cases hw; rfl
      refine zr_ldc (v := -2000000099) X dL_charge_16 zk_L_98 ?_
      refine zr_iret X (by decide) (by decide) dL_charge_18 ?_
      have hn : ¬ (rCharge S u v).1 = 0 := by rw [h]; decide
      simp only [if_neg hn] at k
      have k9 := k _ hC
      have e9 : zcd [(-2000000097 : Int32), (-2000000098 : Int32), (-2000000099 : Int32)] (rCharge S u v) = -2000000099 := by unfold zcd; rw [if_neg hn, h]; rfl
      rw [e9] at k9; exact k9
  · refine zq_X7_charge hC (fun h J hJ => ?_) (fun h => ⟨rfl, Or.inl ⟨h, rfl⟩⟩) (fun h => ⟨rfl, Or.inr (Or.inl ⟨h, rfl⟩)⟩) (fun h => ⟨rfl, Or.inr (Or.inr (⟨h, rfl⟩))⟩)
    refine zr_iret X (by decide) (by decide) dL_charge_6 ?_
    simp only [if_pos h] at k
    have k9 := k _ hJ
    have e9 : zcd [(-2000000097 : Int32), (-2000000098 : Int32), (-2000000099 : Int32)] (rCharge S u v) = (rCharge S u v).2 := by unfold zcd; rw [if_pos h]
    rw [e9] at k9; exact k9
abbrev zrm_L_mode : Room := { frames := 10, cells := 2, slots := 12, locals := 164 }
set_option maxRecDepth 20000 in
theorem zL_mode {l : Launch} {D : va_G} {b0 : Nat} {tA : Nat → ClassId} {sa sv : Nat → Nat} {K : zKt} {I : zI} {Qp : zI → Option AV → Prop} {F9 : zI} {x f : Nat} {t : Nat → Nat} {er : Int32} {S : zS} {U : List zS} {u v : Int32}
    (hC : zCl F9 I x t f er S U) (k : ∀ J : zI, zCl F9 J x t f er (if (rMode S u v).1 = 0 then sMode S u v else S) (if (rMode S u v).1 = 0 then qPush S U else U) → Qp J (some (vi (zcd [(-2000000097 : Int32), (-2000000098 : Int32), (-2000000099 : Int32)] (rMode S u v))))) :
    zC l D b0 tA sa sv K yL_mode (.codeWith yL_mode cL_mode 4 (some .int) [(0, 6, 7, 53), (0, 6, 11, 40), (0, 6, 15, 96)]) zrm_L_mode [vr x 7, vi u, vi v] I Qp (fun _ _ => False) := by
  refine zCW_of (by decide +kernel) (Nat.le_of_ble_eq_true rfl) ?_
  intro p e s m args below meth c X ht
  have X : zX p l e zrm_L_mode s m args below meth c RL cL_mode 4 (some .int) D b0 tA sa sv := X
  refine zr_lv (lv2 := [some (vr x 7), some (vi u), some (vi v), none]) rfl ?_
  refine zr_aload0 X dL_mode_0 ?_
  refine zr_iload1 X dL_mode_1 ?_
  refine zr_iload2 X dL_mode_2 ?_
  refine zr_callVX X zm_L_106 (rm9 := zrm_X7_mode) (As := [vi u, vi v]) (st := []) (Xp' := fun E J => J = I ∧ (((rMode S u v).1 = 1 ∧ E = "java/lang/IndexOutOfBoundsException") ∨ ((rMode S u v).1 = 2 ∧ E = "java/lang/IllegalArgumentException") ∨ ((rMode S u v).1 = 3 ∧ E = "java/lang/IllegalStateException"))) rfl rfl ⟨by decide, Nat.le_of_ble_eq_true rfl⟩ ⟨by decide, by decide⟩ (Nat.le_of_ble_eq_true rfl) dL_mode_3 (fun E J hx => ?_) ?_
  · obtain ⟨rfl, hx⟩ := hx
    rcases hx with ⟨h, rfl⟩ | ⟨h, rfl⟩ | ⟨h, rfl⟩
    · refine zr_caught X ht (hpc := 7) (i := 3) (len := 1) ⟨[], ⟨0, 6, 7, 53⟩, [⟨0, 6, 11, 40⟩, ⟨0, 6, 15, 96⟩], "java/lang/IndexOutOfBoundsException", rfl, (fun z hz => nomatch hz), rfl, by decide, zcl_L_53, zca_53, rfl⟩ (by decide) ?_ (Or.inl ⟨3, rfl, dL_mode_7, rfl⟩) ?_
      · intro j hj w hw
        obtain rfl : j = 2 := by omega
        cases hw; rfl
      refine zr_ldc (v := -2000000097) X dL_mode_8 zk_L_55 ?_
      refine zr_iret X (by decide) (by decide) dL_mode_10 ?_
      have hn : ¬ (rMode S u v).1 = 0 := by rw [h]; decide
      simp only [if_neg hn] at k
      have k9 := k _ hC
      have e9 : zcd [(-2000000097 : Int32), (-2000000098 : Int32), (-2000000099 : Int32)] (rMode S u v) = -2000000097 := by unfold zcd; rw [if_neg hn, h]; rfl
      rw [e9] at k9; exact k9
    · refine zr_caught X ht (hpc := 11) (i := 3) (len := 1) ⟨[⟨0, 6, 7, 53⟩], ⟨0, 6, 11, 40⟩, [⟨0, 6, 15, 96⟩], "java/lang/IllegalArgumentException", rfl, (fun z hz => by
        simp only [List.mem_cons, List.not_mem_nil, or_false] at hz
        rcases hz with rfl
        · exact ⟨by decide, _, zcl_L_53, List.mem_of_getElem? (i := 53) rfl⟩), rfl, by decide, zcl_L_40, zca_40, rfl⟩ (by decide) ?_ (Or.inl ⟨3, rfl, dL_mode_11, rfl⟩) ?_
      · intro j hj w hw
        obtain rfl : j = 2 := by omega
        cases hw; rfl
      refine zr_ldc (v := -2000000098) X dL_mode_12 zk_L_42 ?_
      refine zr_iret X (by decide) (by decide) dL_mode_14 ?_
      have hn : ¬ (rMode S u v).1 = 0 := by rw [h]; decide
      simp only [if_neg hn] at k
      have k9 := k _ hC
      have e9 : zcd [(-2000000097 : Int32), (-2000000098 : Int32), (-2000000099 : Int32)] (rMode S u v) = -2000000098 := by unfold zcd; rw [if_neg hn, h]; rfl
      rw [e9] at k9; exact k9
    · refine zr_caught X ht (hpc := 15) (i := 3) (len := 1) ⟨[⟨0, 6, 7, 53⟩, ⟨0, 6, 11, 40⟩], ⟨0, 6, 15, 96⟩, [], "java/lang/IllegalStateException", rfl, (fun z hz => by
        simp only [List.mem_cons, List.not_mem_nil, or_false] at hz
        rcases hz with rfl | rfl
        · exact ⟨by decide, _, zcl_L_53, List.mem_of_getElem? (i := 56) rfl⟩
        · exact ⟨by decide, _, zcl_L_40, List.mem_of_getElem? (i := 55) rfl⟩), rfl, by decide, zcl_L_96, zca_96, rfl⟩ (by decide) ?_ (Or.inl ⟨3, rfl, dL_mode_15, rfl⟩) ?_
      · intro j hj w hw
        obtain rfl : j = 2 := by omega
        cases hw; rfl
      refine zr_ldc (v := -2000000099) X dL_mode_16 zk_L_98 ?_
      refine zr_iret X (by decide) (by decide) dL_mode_18 ?_
      have hn : ¬ (rMode S u v).1 = 0 := by rw [h]; decide
      simp only [if_neg hn] at k
      have k9 := k _ hC
      have e9 : zcd [(-2000000097 : Int32), (-2000000098 : Int32), (-2000000099 : Int32)] (rMode S u v) = -2000000099 := by unfold zcd; rw [if_neg hn, h]; rfl
      rw [e9] at k9; exact k9
  · refine zq_X7_mode hC (fun h J hJ => ?_) (fun h => ⟨rfl, Or.inl ⟨h, rfl⟩⟩) (fun h => ⟨rfl, Or.inr (Or.inl ⟨h, rfl⟩)⟩) (fun h => ⟨rfl, Or.inr (Or.inr (⟨h, rfl⟩))⟩)
    refine zr_iret X (by decide) (by decide) dL_mode_6 ?_
    simp only [if_pos h] at k
    have k9 := k _ hJ
    have e9 : zcd [(-2000000097 : Int32), (-2000000098 : Int32), (-2000000099 : Int32)] (rMode S u v) = (rMode S u v).2 := by unfold zcd; rw [if_pos h]
    rw [e9] at k9; exact k9
abbrev zrm_L_key : Room := { frames := 9, cells := 1, slots := 6, locals := 141 }
set_option maxRecDepth 20000 in
theorem zL_key {l : Launch} {D : va_G} {b0 : Nat} {tA : Nat → ClassId} {sa sv : Nat → Nat} {K : zKt} {I : zI} {Qp : zI → Option AV → Prop} {F9 : zI} {x f : Nat} {t : Nat → Nat} {er : Int32} {S : zS} {U : List zS} {v : Int32}
    (hC : zCl F9 I x t f er S U) (k : ∀ J : zI, zCl F9 J x t f er (if (rKey S v).1 = 0 then sKey S v else S) (if (rKey S v).1 = 0 then qPush S U else U) → Qp J (some (vi (zcd [(-2000000098 : Int32)] (rKey S v))))) :
    zC l D b0 tA sa sv K yL_key (.codeWith yL_key cL_key 3 (some .int) [(0, 5, 6, 40)]) zrm_L_key [vr x 7, vi v] I Qp (fun _ _ => False) := by
  refine zCW_of (by decide +kernel) (Nat.le_of_ble_eq_true rfl) ?_
  intro p e s m args below meth c X ht
  have X : zX p l e zrm_L_key s m args below meth c RL cL_key 3 (some .int) D b0 tA sa sv := X
  refine zr_lv (lv2 := [some (vr x 7), some (vi v), none]) rfl ?_
  refine zr_aload0 X dL_key_0 ?_
  refine zr_iload1 X dL_key_1 ?_
  refine zr_callVX X zm_L_109 (rm9 := zrm_X7_key) (As := [vi v]) (st := []) (Xp' := fun E J => J = I ∧ (((rKey S v).1 = 1 ∧ E = "java/lang/IllegalArgumentException"))) rfl rfl ⟨by decide, Nat.le_of_ble_eq_true rfl⟩ ⟨by decide, by decide⟩ (Nat.le_of_ble_eq_true rfl) dL_key_2 (fun E J hx => ?_) ?_
  · obtain ⟨rfl, hx⟩ := hx
    rcases hx with ⟨h, rfl⟩
    · refine zr_caught X ht (hpc := 6) (i := 2) (len := 1) ⟨[], ⟨0, 5, 6, 40⟩, [], "java/lang/IllegalArgumentException", rfl, (fun z hz => nomatch hz), rfl, by decide, zcl_L_40, zca_40, rfl⟩ (by decide) ?_ (Or.inl ⟨2, rfl, dL_key_6, rfl⟩) ?_
      · intro j hj w hw
        obtain rfl : j = 1 := by omega
        cases hw; rfl
      refine zr_ldc (v := -2000000098) X dL_key_7 zk_L_42 ?_
      refine zr_iret X (by decide) (by decide) dL_key_9 ?_
      have hn : ¬ (rKey S v).1 = 0 := by rw [h]; decide
      simp only [if_neg hn] at k
      have k9 := k _ hC
      have e9 : zcd [(-2000000098 : Int32)] (rKey S v) = -2000000098 := by unfold zcd; rw [if_neg hn, h]; rfl
      rw [e9] at k9; exact k9
  · refine zq_X7_key hC (fun h J hJ => ?_) (fun h => ⟨rfl, ⟨h, rfl⟩⟩)
    refine zr_iret X (by decide) (by decide) dL_key_5 ?_
    simp only [if_pos h] at k
    have k9 := k _ hJ
    have e9 : zcd [(-2000000098 : Int32)] (rKey S v) = (rKey S v).2 := by unfold zcd; rw [if_pos h]
    rw [e9] at k9; exact k9
abbrev zrm_L_tick : Room := { frames := 10, cells := 1, slots := 6, locals := 163 }
set_option maxRecDepth 20000 in
theorem zL_tick {l : Launch} {D : va_G} {b0 : Nat} {tA : Nat → ClassId} {sa sv : Nat → Nat} {K : zKt} {I : zI} {Qp : zI → Option AV → Prop} {F9 : zI} {x f : Nat} {t : Nat → Nat} {er : Int32} {S : zS} {U : List zS} {v : Int32}
    (hC : zCl F9 I x t f er S U) (k : ∀ J : zI, zCl F9 J x t f er (if (rTick S v).1 = 0 then sTick S v else S) (if (rTick S v).1 = 0 then qPush S U else U) → Qp J (some (vi (zcd [(-2000000098 : Int32)] (rTick S v))))) :
    zC l D b0 tA sa sv K yL_tick (.codeWith yL_tick cL_tick 3 (some .int) [(0, 5, 6, 40)]) zrm_L_tick [vr x 7, vi v] I Qp (fun _ _ => False) := by
  refine zCW_of (by decide +kernel) (Nat.le_of_ble_eq_true rfl) ?_
  intro p e s m args below meth c X ht
  have X : zX p l e zrm_L_tick s m args below meth c RL cL_tick 3 (some .int) D b0 tA sa sv := X
  refine zr_lv (lv2 := [some (vr x 7), some (vi v), none]) rfl ?_
  refine zr_aload0 X dL_tick_0 ?_
  refine zr_iload1 X dL_tick_1 ?_
  refine zr_callVX X zm_L_112 (rm9 := zrm_X7_tick) (As := [vi v]) (st := []) (Xp' := fun E J => J = I ∧ (((rTick S v).1 = 1 ∧ E = "java/lang/IllegalArgumentException"))) rfl rfl ⟨by decide, Nat.le_of_ble_eq_true rfl⟩ ⟨by decide, by decide⟩ (Nat.le_of_ble_eq_true rfl) dL_tick_2 (fun E J hx => ?_) ?_
  · obtain ⟨rfl, hx⟩ := hx
    rcases hx with ⟨h, rfl⟩
    · refine zr_caught X ht (hpc := 6) (i := 2) (len := 1) ⟨[], ⟨0, 5, 6, 40⟩, [], "java/lang/IllegalArgumentException", rfl, (fun z hz => nomatch hz), rfl, by decide, zcl_L_40, zca_40, rfl⟩ (by decide) ?_ (Or.inl ⟨2, rfl, dL_tick_6, rfl⟩) ?_
      · intro j hj w hw
        obtain rfl : j = 1 := by omega
        cases hw; rfl
      refine zr_ldc (v := -2000000098) X dL_tick_7 zk_L_42 ?_
      refine zr_iret X (by decide) (by decide) dL_tick_9 ?_
      have hn : ¬ (rTick S v).1 = 0 := by rw [h]; decide
      simp only [if_neg hn] at k
      have k9 := k _ hC
      have e9 : zcd [(-2000000098 : Int32)] (rTick S v) = -2000000098 := by unfold zcd; rw [if_neg hn, h]; rfl
      rw [e9] at k9; exact k9
  · refine zq_X7_tick hC (fun h J hJ => ?_) (fun h => ⟨rfl, ⟨h, rfl⟩⟩)
    refine zr_iret X (by decide) (by decide) dL_tick_5 ?_
    simp only [if_pos h] at k
    have k9 := k _ hJ
    have e9 : zcd [(-2000000098 : Int32)] (rTick S v) = (rTick S v).2 := by unfold zcd; rw [if_pos h]
    rw [e9] at k9; exact k9
abbrev zrm_L_load : Room := { frames := 10, cells := 1, slots := 6, locals := 245 }
set_option maxRecDepth 20000 in
theorem zL_load {l : Launch} {D : va_G} {b0 : Nat} {tA : Nat → ClassId} {sa sv : Nat → Nat} {K : zKt} {I : zI} {Qp : zI → Option AV → Prop} {F9 : zI} {x f : Nat} {t : Nat → Nat} {er : Int32} {S : zS} {U : List zS} {v : Int32}
    (hC : zCl F9 I x t f er S U) (k : ∀ J : zI, zCl F9 J x t (fLoad f v) (eLoad t f v er) (sLoad t f v S) (uLoad t f v S U) → Qp J (some (vi (zcd [(-2000000098 : Int32)] (rLoad t f v))))) :
    zC l D b0 tA sa sv K yL_load (.codeWith yL_load cL_load 3 (some .int) [(0, 5, 6, 40)]) zrm_L_load [vr x 7, vi v] I Qp (fun _ _ => False) := by
  refine zCW_of (by decide +kernel) (Nat.le_of_ble_eq_true rfl) ?_
  intro p e s m args below meth c X ht
  have X : zX p l e zrm_L_load s m args below meth c RL cL_load 3 (some .int) D b0 tA sa sv := X
  refine zr_lv (lv2 := [some (vr x 7), some (vi v), none]) rfl ?_
  refine zr_aload0 X dL_load_0 ?_
  refine zr_iload1 X dL_load_1 ?_
  refine zr_callVX X zm_L_37 (rm9 := zrm_X7_load) (As := [vi v]) (st := []) (Xp' := fun E J => J = I ∧ (((rLoad t f v).1 = 1 ∧ E = "java/lang/IllegalArgumentException"))) rfl rfl ⟨by decide, Nat.le_of_ble_eq_true rfl⟩ ⟨by decide, by decide⟩ (Nat.le_of_ble_eq_true rfl) dL_load_2 (fun E J hx => ?_) ?_
  · obtain ⟨rfl, hx⟩ := hx
    rcases hx with ⟨h, rfl⟩
    · refine zr_caught X ht (hpc := 6) (i := 2) (len := 1) ⟨[], ⟨0, 5, 6, 40⟩, [], "java/lang/IllegalArgumentException", rfl, (fun z hz => nomatch hz), rfl, by decide, zcl_L_40, zca_40, rfl⟩ (by decide) ?_ (Or.inl ⟨2, rfl, dL_load_6, rfl⟩) ?_
      · intro j hj w hw
        obtain rfl : j = 1 := by omega
        cases hw; rfl
      refine zr_ldc (v := -2000000098) X dL_load_7 zk_L_42 ?_
      refine zr_iret X (by decide) (by decide) dL_load_9 ?_
      have hn : ¬ (rLoad t f v).1 = 0 := by rw [h]; decide
      have hv : vIdx v (f + 1) = none := by
        unfold rLoad at hn
        cases hv : vIdx v (f + 1) with
        | none => rfl
        | some n => rw [hv] at hn; dsimp only at hn; split at hn <;> exact absurd rfl hn
      have e1 : fLoad f v = f := by unfold fLoad; rw [hv]
      have e2 : eLoad t f v er = er := by unfold eLoad; rw [hv]
      have e3 : sLoad t f v S = S := by unfold sLoad; rw [hv]
      have e4 : uLoad t f v S U = U := by unfold uLoad; rw [hv]
      rw [e1, e2, e3, e4] at k
      have k9 := k _ hC
      have e9 : zcd [(-2000000098 : Int32)] (rLoad t f v) = -2000000098 := by unfold zcd; rw [if_neg hn, h]; rfl
      rw [e9] at k9; exact k9
  · refine zq_X7_load hC (fun h J hJ => ?_) (fun h => ⟨rfl, ⟨h, rfl⟩⟩)
    refine zr_iret X (by decide) (by decide) dL_load_5 ?_
    have k9 := k _ hJ
    have e9 : zcd [(-2000000098 : Int32)] (rLoad t f v) = (rLoad t f v).2 := by unfold zcd; rw [if_pos h]
    rw [e9] at k9; exact k9
theorem zini_LL : Cond.initialized RL ∈ zALL := zin (List.mem_append_right _ (List.mem_of_getElem? (i := 0) (by decide +kernel))) rfl
theorem zmh_L_253 : zMh RL 253 yL_state cL_state 3 (some .int) [(0, 5, 6, 40)] 2 := ⟨by decide +kernel, zin (List.mem_append_right _ (List.mem_of_getElem? (i := 1342) (by decide +kernel))) rfl, zin (List.mem_append_right _ (List.mem_of_getElem? (i := 1343) (by decide +kernel))) rfl, zini_LL, zin (List.mem_append_right _ (List.mem_of_getElem? (i := 1344) (by decide +kernel))) rfl⟩
theorem zmh_L_286 : zMh RL 286 yL_find cL_find 3 (some .int) [(0, 5, 6, 40)] 2 := ⟨by decide +kernel, zin (List.mem_append_right _ (List.mem_of_getElem? (i := 888) (by decide +kernel))) rfl, zin (List.mem_append_right _ (List.mem_of_getElem? (i := 889) (by decide +kernel))) rfl, zini_LL, zin (List.mem_append_right _ (List.mem_of_getElem? (i := 890) (by decide +kernel))) rfl⟩
theorem zmh_L_255 : zMh RL 255 yL_gate cL_gate 4 (some .int) [(0, 6, 7, 53), (0, 6, 11, 40)] 3 := ⟨by decide +kernel, zin (List.mem_append_right _ (List.mem_of_getElem? (i := 1350) (by decide +kernel))) rfl, zin (List.mem_append_right _ (List.mem_of_getElem? (i := 1351) (by decide +kernel))) rfl, zini_LL, zin (List.mem_append_right _ (List.mem_of_getElem? (i := 1352) (by decide +kernel))) rfl⟩
theorem zmh_L_257 : zMh RL 257 yL_card cL_card 4 (some .int) [(0, 6, 7, 53), (0, 6, 11, 40)] 3 := ⟨by decide +kernel, zin (List.mem_append_right _ (List.mem_of_getElem? (i := 1357) (by decide +kernel))) rfl, zin (List.mem_append_right _ (List.mem_of_getElem? (i := 1358) (by decide +kernel))) rfl, zini_LL, zin (List.mem_append_right _ (List.mem_of_getElem? (i := 1359) (by decide +kernel))) rfl⟩
theorem zmh_L_288 : zMh RL 288 yL_inLine cL_inLine 5 (some .int) [(0, 7, 8, 53), (0, 7, 13, 40), (0, 7, 18, 63)] 4 := ⟨by decide +kernel, zin (List.mem_append_right _ (List.mem_of_getElem? (i := 900) (by decide +kernel))) rfl, zin (List.mem_append_right _ (List.mem_of_getElem? (i := 901) (by decide +kernel))) rfl, zini_LL, zin (List.mem_append_right _ (List.mem_of_getElem? (i := 902) (by decide +kernel))) rfl⟩
theorem zmh_L_290 : zMh RL 290 yL_why cL_why 4 (some .int) [(0, 6, 7, 53), (0, 6, 11, 40)] 3 := ⟨by decide +kernel, zin (List.mem_append_right _ (List.mem_of_getElem? (i := 955) (by decide +kernel))) rfl, zin (List.mem_append_right _ (List.mem_of_getElem? (i := 956) (by decide +kernel))) rfl, zini_LL, zin (List.mem_append_right _ (List.mem_of_getElem? (i := 957) (by decide +kernel))) rfl⟩
theorem zmh_L_292 : zMh RL 292 yL_whyNotJoin cL_whyNotJoin 5 (some .int) [(0, 7, 8, 53), (0, 7, 13, 40)] 4 := ⟨by decide +kernel, zin (List.mem_append_right _ (List.mem_of_getElem? (i := 969) (by decide +kernel))) rfl, zin (List.mem_append_right _ (List.mem_of_getElem? (i := 970) (by decide +kernel))) rfl, zini_LL, zin (List.mem_append_right _ (List.mem_of_getElem? (i := 971) (by decide +kernel))) rfl⟩
theorem zmh_L_294 : zMh RL 294 yL_bestGate cL_bestGate 3 (some .int) [(0, 5, 6, 40)] 2 := ⟨by decide +kernel, zin (List.mem_append_right _ (List.mem_of_getElem? (i := 981) (by decide +kernel))) rfl, zin (List.mem_append_right _ (List.mem_of_getElem? (i := 982) (by decide +kernel))) rfl, zini_LL, zin (List.mem_append_right _ (List.mem_of_getElem? (i := 983) (by decide +kernel))) rfl⟩
theorem zmh_L_296 : zMh RL 296 yL_nextSide cL_nextSide 3 (some .int) [(0, 5, 6, 53)] 2 := ⟨by decide +kernel, zin (List.mem_append_right _ (List.mem_of_getElem? (i := 989) (by decide +kernel))) rfl, zin (List.mem_append_right _ (List.mem_of_getElem? (i := 990) (by decide +kernel))) rfl, zini_LL, zin (List.mem_append_right _ (List.mem_of_getElem? (i := 991) (by decide +kernel))) rfl⟩
theorem zmh_L_298 : zMh RL 298 yL_throughIn cL_throughIn 3 (some .int) [(0, 5, 6, 53)] 2 := ⟨by decide +kernel, zin (List.mem_append_right _ (List.mem_of_getElem? (i := 997) (by decide +kernel))) rfl, zin (List.mem_append_right _ (List.mem_of_getElem? (i := 998) (by decide +kernel))) rfl, zini_LL, zin (List.mem_append_right _ (List.mem_of_getElem? (i := 999) (by decide +kernel))) rfl⟩
theorem zmh_L_300 : zMh RL 300 yL_insideIn cL_insideIn 3 (some .int) [(0, 5, 6, 40)] 2 := ⟨by decide +kernel, zin (List.mem_append_right _ (List.mem_of_getElem? (i := 1006) (by decide +kernel))) rfl, zin (List.mem_append_right _ (List.mem_of_getElem? (i := 1007) (by decide +kernel))) rfl, zini_LL, zin (List.mem_append_right _ (List.mem_of_getElem? (i := 1008) (by decide +kernel))) rfl⟩
theorem zmh_L_302 : zMh RL 302 yL_followersIn cL_followersIn 3 (some .int) [(0, 5, 6, 40)] 2 := ⟨by decide +kernel, zin (List.mem_append_right _ (List.mem_of_getElem? (i := 1017) (by decide +kernel))) rfl, zin (List.mem_append_right _ (List.mem_of_getElem? (i := 1018) (by decide +kernel))) rfl, zini_LL, zin (List.mem_append_right _ (List.mem_of_getElem? (i := 1019) (by decide +kernel))) rfl⟩
theorem zmh_L_304 : zMh RL 304 yL_ranked cL_ranked 3 (some .int) [(0, 5, 6, 63)] 2 := ⟨by decide +kernel, zin (List.mem_append_right _ (List.mem_of_getElem? (i := 1024) (by decide +kernel))) rfl, zin (List.mem_append_right _ (List.mem_of_getElem? (i := 1025) (by decide +kernel))) rfl, zini_LL, zin (List.mem_append_right _ (List.mem_of_getElem? (i := 1026) (by decide +kernel))) rfl⟩
theorem zmh_L_197 : zMh RL 197 yL_join cL_join 5 (some .int) [(0, 7, 8, 53), (0, 7, 13, 40)] 4 := ⟨by decide +kernel, zin (List.mem_append_right _ (List.mem_of_getElem? (i := 1041) (by decide +kernel))) rfl, zin (List.mem_append_right _ (List.mem_of_getElem? (i := 1042) (by decide +kernel))) rfl, zini_LL, zin (List.mem_append_right _ (List.mem_of_getElem? (i := 1043) (by decide +kernel))) rfl⟩
theorem zmh_L_207 : zMh RL 207 yL_leave cL_leave 5 (some .int) [(0, 7, 8, 53), (0, 7, 13, 40), (0, 7, 18, 63), (0, 7, 23, 96)] 4 := ⟨by decide +kernel, zin (List.mem_append_right _ (List.mem_of_getElem? (i := 1049) (by decide +kernel))) rfl, zin (List.mem_append_right _ (List.mem_of_getElem? (i := 1050) (by decide +kernel))) rfl, zini_LL, zin (List.mem_append_right _ (List.mem_of_getElem? (i := 1051) (by decide +kernel))) rfl⟩
theorem zmh_L_222 : zMh RL 222 yL_list cL_list 4 (some .int) [(0, 6, 7, 53)] 3 := ⟨by decide +kernel, zin (List.mem_append_right _ (List.mem_of_getElem? (i := 1079) (by decide +kernel))) rfl, zin (List.mem_append_right _ (List.mem_of_getElem? (i := 1080) (by decide +kernel))) rfl, zini_LL, zin (List.mem_append_right _ (List.mem_of_getElem? (i := 1081) (by decide +kernel))) rfl⟩
theorem zmh_L_225 : zMh RL 225 yL_charge cL_charge 4 (some .int) [(0, 6, 7, 53), (0, 6, 11, 40), (0, 6, 15, 96)] 3 := ⟨by decide +kernel, zin (List.mem_append_right _ (List.mem_of_getElem? (i := 1090) (by decide +kernel))) rfl, zin (List.mem_append_right _ (List.mem_of_getElem? (i := 1091) (by decide +kernel))) rfl, zini_LL, zin (List.mem_append_right _ (List.mem_of_getElem? (i := 1092) (by decide +kernel))) rfl⟩
theorem zmh_L_238 : zMh RL 238 yL_mode cL_mode 4 (some .int) [(0, 6, 7, 53), (0, 6, 11, 40), (0, 6, 15, 96)] 3 := ⟨by decide +kernel, zin (List.mem_append_right _ (List.mem_of_getElem? (i := 1099) (by decide +kernel))) rfl, zin (List.mem_append_right _ (List.mem_of_getElem? (i := 1100) (by decide +kernel))) rfl, zini_LL, zin (List.mem_append_right _ (List.mem_of_getElem? (i := 1101) (by decide +kernel))) rfl⟩
theorem zmh_L_240 : zMh RL 240 yL_key cL_key 3 (some .int) [(0, 5, 6, 40)] 2 := ⟨by decide +kernel, zin (List.mem_append_right _ (List.mem_of_getElem? (i := 1117) (by decide +kernel))) rfl, zin (List.mem_append_right _ (List.mem_of_getElem? (i := 1118) (by decide +kernel))) rfl, zini_LL, zin (List.mem_append_right _ (List.mem_of_getElem? (i := 1119) (by decide +kernel))) rfl⟩
theorem zmh_L_243 : zMh RL 243 yL_tick cL_tick 3 (some .int) [(0, 5, 6, 40)] 2 := ⟨by decide +kernel, zin (List.mem_append_right _ (List.mem_of_getElem? (i := 1127) (by decide +kernel))) rfl, zin (List.mem_append_right _ (List.mem_of_getElem? (i := 1128) (by decide +kernel))) rfl, zini_LL, zin (List.mem_append_right _ (List.mem_of_getElem? (i := 1129) (by decide +kernel))) rfl⟩
theorem zmh_L_19 : zMh RL 19 yL_load cL_load 3 (some .int) [(0, 5, 6, 40)] 2 := ⟨by decide +kernel, zin (List.mem_append_right _ (List.mem_of_getElem? (i := 504) (by decide +kernel))) rfl, zin (List.mem_append_right _ (List.mem_of_getElem? (i := 505) (by decide +kernel))) rfl, zini_LL, zin (List.mem_append_right _ (List.mem_of_getElem? (i := 506) (by decide +kernel))) rfl⟩
