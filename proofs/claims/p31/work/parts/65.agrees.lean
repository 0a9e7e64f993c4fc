/-! ===== the two agree ===== -/
theorem vIdx_no {n : Nat} (h : n < 2 ^ 31) : vIdx (nI n) n = none := by
  unfold vIdx
  rw [nI_toInt h, if_neg (by omega)]
theorem zcd_st16 {S : zS} : zcd [(-2000000098 : Int32)] (rState S (16 : Int32)) = -2000000098 := by
  unfold rState
  rw [show vIdx 16 16 = none by decide]; rfl
theorem zcd_st {S : zS} {k : Nat} (h : k < 16) : zcd [(-2000000098 : Int32)] (rState S (nI k)) = qState S k := by
  unfold rState
  rw [vIdx_is (by decide) h]; rfl
theorem zcd_gt {S : zS} {n : Nat} {v : Int32} (h : zng S = n) (hn : n ≤ 6) : zcd [(-2000000097 : Int32), (-2000000098 : Int32)] (rGate S (nI n) v) = -2000000097 := by
  unfold rGate
  rw [h, vIdx_no (by omega)]; rfl
theorem zcd_cd {S : zS} {n : Nat} {v : Int32} (h : znc S = n) (hn : n ≤ 12) : zcd [(-2000000097 : Int32), (-2000000098 : Int32)] (rCard S (nI n) v) = -2000000097 := by
  unfold rCard
  rw [h, vIdx_no (by omega)]; rfl
abbrev zrm_L_agrees : Room := { frames := 11, cells := 25, slots := 150, locals := 191 }
set_option maxRecDepth 20000 in
theorem zl_L_agrees {l : Launch} {D : va_G} {b0 : Nat} {tA : Nat → ClassId} {sa sv : Nat → Nat} {K : zKt} {I : zI} {Qp : zI → Option AV → Prop} {Xp : String → zI → Prop} {p : Program} {e : Env} {s : State} {m : MethodId} {args : Array Value} {below : List Frame} {meth : Method} {c : Code} {x f : Nat} {t : Nat → Nat} {er : Int32} {S : zS} {U : List zS} {A : Nat → Nat} {n7 m7 : Nat} {F9 : zI}
    (X : zX p l e zrm_L_agrees s m args below meth c RL cL_agrees 4 (some .boolean) D b0 tA sa sv) (hnt : ∀ x ∈ c.exceptionTable.toList, False) (hC : zCl F9 I x t f er S U) (hS : zSh K A n7 m7) (hM : zSt I A n7 m7 S) (hG : qGap S = 0) (k1 : Qp I (some (vi 1))) :
    ∀ (n : Nat) (k cells slots : Nat), k ≤ 16 → cells ≤ 5 + k → slots ≤ 30 + 6 * k → 16 - k < n → zG p l e zrm_L_agrees s m args below meth c 4 D b0 tA sa cells slots (zQ below D b0 tA sa K args s zrm_L_agrees Qp Xp) K 66 [some (vr (x) 7), some (vr (A (0)) 17), some (vi ((1 : Int32))), some (vi ((nI k)))] [] I := by
  intro n
  induction n with
  | zero => intro k cells slots i1 ic is i9; exact absurd i9 (Nat.not_lt_zero _)
  | succ n ih =>
    intro k cells slots i1 ic is i9
    have hW := hC.2.2.2.1
    have hA := hS.1
    have hn6 := hM.1.1
    have hm12 := hM.1.2
    have hgn := hM.ng
    have hcm := hM.nc
    have hlen := hW.len
    refine zr_iload3 X dL_agrees_66 ?_
    refine zr_bipush (v := (16 : Int32)) X dL_agrees_67 (by decide) ?_
    refine zr_nicmp_ge X (k) (16) (tgt := 101) (by omega) (by omega) dL_agrees_69 (by decide) (fun h1 => ?_) (fun h1 => ?_)
    · skip
      refine zr_iload2 X dL_agrees_101 ?_
      refine zr_zret X (by first | decide | assumption | (simp; done)) (by simp only [zrm_L_agrees, zrm_L_state, zrm_L_gate, zrm_L_card, zrm_X12_told]; omega) (by simp only [zrm_L_agrees, zrm_L_state, zrm_L_gate, zrm_L_card, zrm_X12_told]; omega) dL_agrees_102 ?_
      exact k1
    · skip
      refine zr_iload2 X dL_agrees_72 ?_
      refine zr_if_eq (tgt := 101) X dL_agrees_73 (by decide) (fun h => absurd h (by decide)) (fun _ => ?_)
      refine zr_aload0 X dL_agrees_76 ?_
      refine zr_iload3 X dL_agrees_77 ?_
      refine zr_callSX (rm9 := zrm_L_state) (As := [vr (x) 7, vi ((nI k))]) (st := []) X zmh_L_253 rfl rfl ⟨by decide, Nat.le_of_ble_eq_true rfl⟩ ⟨by simp only [zrm_L_agrees, zrm_L_state, zrm_L_gate, zrm_L_card, zrm_X12_told]; omega, by simp only [zrm_L_agrees, zrm_L_state, zrm_L_gate, zrm_L_card, zrm_X12_told]; omega⟩ (Nat.le_of_ble_eq_true rfl) dL_agrees_78 ?_
      refine zL_state hC ?_
      refine zr_eq (x2 := (qState S k)) (zcd_st (by omega)) ?_
      refine zr_aload1 X dL_agrees_81 ?_
      refine zr_iload3 X dL_agrees_82 ?_
      refine zr_callVQ (rm9 := zrm_X12_told) (As := [vi ((nI k))]) (st := [vi ((qState S k))]) X zm_L_259 rfl rfl ⟨by decide, Nat.le_of_ble_eq_true rfl⟩ ⟨by simp only [zrm_L_agrees, zrm_L_state, zrm_L_gate, zrm_L_card, zrm_X12_told]; omega, by simp only [zrm_L_agrees, zrm_L_state, zrm_L_gate, zrm_L_card, zrm_X12_told]; omega⟩ (Nat.le_of_ble_eq_true rfl) dL_agrees_83 ?_
      refine zq_X12_told (w9 := k) hS hM hW (by omega) ?_
      refine zr_icmp_ne (tgt := 93) X dL_agrees_86 (by decide) (fun h2 => ?_) (fun h2 => ?_)
      · exact absurd rfl h2
      · skip
        refine zr_iconst (v := (1 : Int32)) X dL_agrees_89 (by decide) ?_
        refine zr_goto (tgt := 94) X dL_agrees_90 (by decide) ?_
        refine zr_istore2 X (by decide) rfl dL_agrees_94 ?_
        refine zr_iinc3 (v := (nI (k + 1))) X (show nI (k) + Int32.ofInt 1 = nI (k + 1) from nI_1 (k)) (by decide) rfl dL_agrees_95 ?_
        refine zr_goto (tgt := 66) X dL_agrees_98 (by decide) ?_
        exact ih (k + 1) _ _ (by omega) (by simp only [zrm_L_agrees, zrm_L_state, zrm_L_gate, zrm_L_card, zrm_X12_told]; omega) (by simp only [zrm_L_agrees, zrm_L_state, zrm_L_gate, zrm_L_card, zrm_X12_told]; omega) (by omega)
set_option maxRecDepth 20000 in
theorem zp_L_agrees {l : Launch} {D : va_G} {b0 : Nat} {tA : Nat → ClassId} {sa sv : Nat → Nat} {K : zKt} {I : zI} {Qp : zI → Option AV → Prop} {Xp : String → zI → Prop} {x f : Nat} {t : Nat → Nat} {er : Int32} {S : zS} {U : List zS} {A : Nat → Nat} {n7 m7 : Nat} {F9 : zI}
    (hC : zCl F9 I x t f er S U) (hS : zSh K A n7 m7) (hM : zSt I A n7 m7 S) (hG : qGap S = 0) (k1 : Qp I (some (vi 1))) :
    zC l D b0 tA sa sv K yL_agrees (.code yL_agrees cL_agrees 4 (some .boolean)) zrm_L_agrees [vr (x) 7, vr (A (0)) 17] I Qp Xp := by
  have hW := hC.2.2.2.1
  have hA := hS.1
  have hn6 := hM.1.1
  have hm12 := hM.1.2
  have hgn := hM.ng
  have hcm := hM.nc
  have hlen := hW.len
  refine zC_of (by decide +kernel) (Nat.le_of_ble_eq_true rfl) ?_
  intro p e s m args below meth c X hnt
  have X : zX p l e zrm_L_agrees s m args below meth c RL cL_agrees 4 (some .boolean) D b0 tA sa sv := X
  refine zr_lv (lv2 := [some (vr (x) 7), some (vr (A (0)) 17), none, none]) rfl ?_
  refine zr_aload0 X dL_agrees_0 ?_
  refine zr_callVQ (rm9 := zrm_X7_checksum) (As := []) (st := []) X zm_L_245 rfl rfl ⟨by decide, Nat.le_of_ble_eq_true rfl⟩ ⟨by decide, by decide⟩ (Nat.le_of_ble_eq_true rfl) dL_agrees_1 ?_
  refine zq_X7_checksum hC ?_
  refine zr_aload1 X dL_agrees_4 ?_
  refine zr_callVQ (rm9 := zrm_X12_checksum) (As := []) (st := [vl ((qSum S))]) X zm_L_249 rfl rfl ⟨by decide, Nat.le_of_ble_eq_true rfl⟩ ⟨by decide, by decide⟩ (Nat.le_of_ble_eq_true rfl) dL_agrees_5 ?_
  refine zp_X12_checksum hS hM hW ?_
  refine zr_lcmp X dL_agrees_8 ?_
  refine zr_if_ne (tgt := 62) X dL_agrees_9 (by decide) (fun h => absurd h (by decide)) (fun _ => ?_)
  refine zr_aload0 X dL_agrees_12 ?_
  refine zr_callVQ (rm9 := zrm_X7_gap) (As := []) (st := []) X zm_L_250 rfl rfl ⟨by decide, Nat.le_of_ble_eq_true rfl⟩ ⟨by decide, by decide⟩ (Nat.le_of_ble_eq_true rfl) dL_agrees_13 ?_
  refine zq_X7_gap hC ?_
  refine zr_eq (x2 := (0 : Int32)) (hG) ?_
  refine zr_if_ne (tgt := 62) X dL_agrees_16 (by decide) (fun h => absurd h (by decide)) (fun _ => ?_)
  refine zr_aload0 X dL_agrees_19 ?_
  refine zr_bipush (v := (16 : Int32)) X dL_agrees_20 (by decide) ?_
  refine zr_callSX (rm9 := zrm_L_state) (As := [vr (x) 7, vi ((16 : Int32))]) (st := []) X zmh_L_253 rfl rfl ⟨by decide, Nat.le_of_ble_eq_true rfl⟩ ⟨by decide, by decide⟩ (Nat.le_of_ble_eq_true rfl) dL_agrees_22 ?_
  refine zL_state hC ?_
  refine zr_eq (x2 := (-2000000098 : Int32)) (zcd_st16) ?_
  refine zr_ldc (v := -2000000098) X dL_agrees_25 zk_L_42 ?_
  refine zr_icmp_ne (tgt := 62) X dL_agrees_27 (by decide) (fun h => absurd h (by decide)) (fun _ => ?_)
  refine zr_aload0 X dL_agrees_30 ?_
  refine zr_aload1 X dL_agrees_31 ?_
  refine zr_getI X zf_L_143 rfl dL_agrees_32 ?_
  refine zr_eq (x2 := (nI n7)) ((hM.2.2.1 4 (by decide) (by decide)).trans hM.2.1.1) ?_
  refine zr_iconst (v := (0 : Int32)) X dL_agrees_35 (by decide) ?_
  refine zr_callSX (rm9 := zrm_L_gate) (As := [vr (x) 7, vi ((nI n7)), vi ((0 : Int32))]) (st := []) X zmh_L_255 rfl rfl ⟨by decide, Nat.le_of_ble_eq_true rfl⟩ ⟨by decide, by decide⟩ (Nat.le_of_ble_eq_true rfl) dL_agrees_36 ?_
  refine zL_gate hC ?_
  refine zr_eq (x2 := (-2000000097 : Int32)) (zcd_gt hM.ng hM.1.1) ?_
  refine zr_ldc (v := -2000000097) X dL_agrees_39 zk_L_55 ?_
  refine zr_icmp_ne (tgt := 62) X dL_agrees_41 (by decide) (fun h => absurd h (by decide)) (fun _ => ?_)
  refine zr_aload0 X dL_agrees_44 ?_
  refine zr_aload1 X dL_agrees_45 ?_
  refine zr_getI X zf_L_163 rfl dL_agrees_46 ?_
  refine zr_eq (x2 := (nI m7)) ((hM.2.2.1 5 (by decide) (by decide)).trans hM.2.1.2) ?_
  refine zr_iconst (v := (0 : Int32)) X dL_agrees_49 (by decide) ?_
  refine zr_callSX (rm9 := zrm_L_card) (As := [vr (x) 7, vi ((nI m7)), vi ((0 : Int32))]) (st := []) X zmh_L_257 rfl rfl ⟨by decide, Nat.le_of_ble_eq_true rfl⟩ ⟨by decide, by decide⟩ (Nat.le_of_ble_eq_true rfl) dL_agrees_50 ?_
  refine zL_card hC ?_
  refine zr_eq (x2 := (-2000000097 : Int32)) (zcd_cd hM.nc hM.1.2) ?_
  refine zr_ldc (v := -2000000097) X dL_agrees_53 zk_L_55 ?_
  refine zr_icmp_ne (tgt := 62) X dL_agrees_55 (by decide) (fun h => absurd h (by decide)) (fun _ => ?_)
  refine zr_iconst (v := (1 : Int32)) X dL_agrees_58 (by decide) ?_
  refine zr_goto (tgt := 63) X dL_agrees_59 (by decide) ?_
  refine zr_istore2 X (by decide) rfl dL_agrees_63 ?_
  refine zr_iconst (v := (0 : Int32)) X dL_agrees_64 (by decide) ?_
  refine zr_istore3 X (by decide) rfl dL_agrees_65 ?_
  exact zl_L_agrees X hnt hC hS hM hG k1 17 0 _ _ (by omega) (by decide) (by decide) (by omega)
