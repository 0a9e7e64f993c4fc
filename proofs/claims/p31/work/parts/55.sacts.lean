/-! ===== what the law's station does ===== -/
theorem tX_id {S : zS} {i : Nat} : tX S i (sX S i) = S := by
  refine Prod.ext ?_ rfl
  funext x
  show va_up S.1 i (sX S i) x = S.1 x
  unfold va_up
  split
  · rename_i h; subst h; rfl
  · rfl
theorem tL_tL {S : zS} {g s : Nat} {w w2 : List Nat} : tL (tL S g s w) g s w2 = tL S g s w2 := by
  refine Prod.ext rfl (Prod.ext rfl (Prod.ext ?_ rfl))
  funext x y
  show zu2 (zu2 (sL S) g s w) g s w2 x y = zu2 (sL S) g s w2 x y
  unfold zu2
  split
  · rfl
  · rfl
theorem tC_comm {S : zS} {c j k : Nat} {v w : Int32} (h : j ≠ k) : tC (tC S c j v) c k w = tC (tC S c k w) c j v := by
  refine Prod.ext rfl (Prod.ext rfl (Prod.ext rfl (Prod.ext ?_ rfl)))
  funext x y
  show zu2 (zu2 (sC S) c j v) c k w x y = zu2 (zu2 (sC S) c k w) c j v x y
  unfold zu2
  by_cases h1 : x = c ∧ y = j
  · simp only [if_pos h1, if_neg (fun z : _ ∧ _ => h (h1.2.symm.trans z.2))]
  · simp only [if_neg h1]
theorem tG_comm {S : zS} {g j k : Nat} {v w : Int32} (h : j ≠ k) : tG (tG S g j v) g k w = tG (tG S g k w) g j v := by
  refine Prod.ext rfl (Prod.ext ?_ rfl)
  funext x y
  show zu2 (zu2 (sG S) g j v) g k w x y = zu2 (zu2 (sG S) g k w) g j v x y
  unfold zu2
  by_cases h1 : x = g ∧ y = j
  · simp only [if_pos h1, if_neg (fun z : _ ∧ _ => h (h1.2.symm.trans z.2))]
  · simp only [if_neg h1]
theorem zSt.same {I : zI} {A : Nat → Nat} {n m : Nat} {S S' : zS} (h : zSt I A n m S) (hX : ∀ i : Nat, i < 15 → sX S' i = sX S i) (hR : S'.2 = S.2) : zSt I A n m S' := by
  obtain ⟨x1, r1⟩ := S
  obtain ⟨x2, r2⟩ := S'
  obtain rfl : r2 = r1 := hR
  obtain ⟨h1, h2, h3, h4, h5, h6⟩ := h
  exact ⟨h1, ⟨(hX 4 (by decide)).trans h2.1, (hX 5 (by decide)).trans h2.2⟩, fun i a b => (h3 i a b).trans (hX i a).symm, fun k a => (h4 k a).trans (hX (6 + k) (by omega)).symm, h5, h6⟩
theorem tC_at {S : zS} {c j k : Nat} {v : Int32} (h : k ≠ j) : sC (tC S c j v) c k = sC S c k := zu2_ne (fun z => h z.2)
theorem zgd_m {m : Nat} {w : List Nat} (h : ∀ y ∈ w, y ≤ m) (k : Nat) : w.getD k 0 ≤ m := by
  rw [List.getD_eq_getElem?_getD]
  cases e : w[k]? with
  | none => exact Nat.zero_le _
  | some y => exact h y (List.mem_of_getElem? e)
theorem zw_X10_lead {l : Launch} {D : va_G} {b0 : Nat} {tA : Nat → ClassId} {sa sv : Nat → Nat} {K : zKt} {I : zI} {Qp : zI → Option AV → Prop} {Xp : String → zI → Prop} {a b x : Nat} {v : Int32} {w : List Nat} (hL : zLm I a b w) (hK : K.2 a 1 = some b) (hab : a ≠ b) (hl : w.length < 11) (hv : nI x - 1 = v) (k1 : ∀ I' : zI, zg2 I I' a b → zLm I' a b (x :: w) → Qp I' none) :
    zC l D b0 tA sa sv K yX10_lead (.code yX10_lead cX10_lead 3 none) zrm_X10_lead [vr (a) 15, vi (v)] I Qp Xp := by
  subst hv
  exact zp_X10_lead hL hK hab hl k1
theorem zw_X10_add {l : Launch} {D : va_G} {b0 : Nat} {tA : Nat → ClassId} {sa sv : Nat → Nat} {K : zKt} {I : zI} {Qp : zI → Option AV → Prop} {Xp : String → zI → Prop} {a b x : Nat} {v : Int32} {w : List Nat} (hL : zLm I a b w) (hK : K.2 a 1 = some b) (hab : a ≠ b) (hl : w.length < 11) (hv : nI x - 1 = v) (k1 : ∀ I' : zI, zg2 I I' a b → zLm I' a b (w ++ [x]) → Qp I' none) :
    zC l D b0 tA sa sv K yX10_add (.code yX10_add cX10_add 2 none) zrm_X10_add [vr (a) 15, vi (v)] I Qp Xp := by
  subst hv
  exact zp_X10_add hL hK hab hl k1
abbrev zrm_X12_pass : Room := { frames := 1, cells := 0, slots := 0, locals := 23 }
set_option maxRecDepth 20000 in
theorem zp010_X12_pass {l : Launch} {D : va_G} {b0 : Nat} {tA : Nat → ClassId} {sa sv : Nat → Nat} {K : zKt} {I : zI} {Qp : zI → Option AV → Prop} {Xp : String → zI → Prop} {A : Nat → Nat} {n7 m7 g : Nat} {S : zS}
    (hS : zSh K A n7 m7) (hM : zSt I A n7 m7 S) (hg : g < n7) (hl9 : (sL S g 0).length ≤ 10) (hl : 0 < (sL S g 0).length) (hw : (sL S g 0).getD 0 0 = 0) (k1 : ∀ J : zI, zgA I J A n7 m7 → zSt J A n7 m7 (qGoes S g 0) → Qp J none) :
    zC l D b0 tA sa sv K yX12_pass (.code yX12_pass cX12_pass 5 none) zrm_X12_pass [vr (A (0)) 17, vr (A (4 + 5 * g)) 14, vi ((0 : Int32)), vi ((1 : Int32))] I Qp Xp := by
  have hA := hS.1
  have hn6 := hM.1.1
  have hm12 := hM.1.2
  refine zC_of (by decide +kernel) (Nat.le_of_ble_eq_true rfl) ?_
  intro p e s m args below meth c X hnt
  have X : zX p l e zrm_X12_pass s m args below meth c RX12 cX12_pass 5 none D b0 tA sa sv := X
  refine zr_lv (lv2 := [some (vr (A (0)) 17), some (vr (A (4 + 5 * g)) 14), some (vi ((0 : Int32))), some (vi ((1 : Int32))), none]) rfl ?_
  refine zr_aload1 X dX12_pass_0 ?_
  refine zr_iload2 X dX12_pass_1 ?_
  refine zr_callV1 (rm9 := zrm_X9_line) X hnt zm_X12_94 (by decide) (by decide) (by decide) (Nat.le_of_ble_eq_true rfl) dX12_pass_2 ?_
  refine zp0_X9_line hS (by omega) ?_
  refine zr_iconst (v := (0 : Int32)) X dX12_pass_5 (by decide) ?_
  refine zr_callV1 (rm9 := zrm_X10_take) X hnt zm_X12_98 (by decide) (by decide) (by decide) (Nat.le_of_ble_eq_true rfl) dX12_pass_6 ?_
  refine zp_X10_take (w := (sL S g 0)) (k := 0) (hM.2.2.2.2.1 g (by omega)).2.1 ((hS.2.2.1 g (by omega)).2.2.2.1) (fun z => absurd (hA _ _ z) (by omega)) (by omega) (by have := hl9; omega) ?_
  intro J1 hg2 hl3; have hM4 : zSt J1 A n7 m7 (tL S g 0 ((sL S g 0).eraseIdx 0)) := zSt_L hA hM (show g < n7 by omega) (Or.inl ⟨rfl, rfl, rfl⟩) hg2 hl3
  refine zr_eq (x2 := (-1 : Int32)) (by rw [hw]; rfl) ?_
  refine zr_istore4 X (by decide) rfl dX12_pass_9 ?_
  refine zr_iload2 X dX12_pass_11 ?_
  refine zr_if_ne (tgt := 38) X dX12_pass_12 (by decide) (fun h => absurd h (by decide)) (fun _ => ?_)
  refine zr_aload0 X dX12_pass_15 ?_
  refine zr_dupR X dX12_pass_16 ?_
  refine zr_getI X zf_X12_44 rfl dX12_pass_17 ?_
  refine zr_eq (x2 := (sX (tL S g 0 ((sL S g 0).eraseIdx 0)) 9)) (hM4.2.2.1 9 (by decide) (by decide)) ?_
  refine zr_iconst (v := (1 : Int32)) X dX12_pass_20 (by decide) ?_
  refine zr_iadd X dX12_pass_21 ?_
  refine zr_putI X zf_X12_44 rfl (Or.inl rfl) dX12_pass_22 ?_
  have hM_1 : zSt _ A n7 m7 (tX (tL S g 0 ((sL S g 0).eraseIdx 0)) 9 ((sX (tL S g 0 ((sL S g 0).eraseIdx 0)) 9) + (1 : Int32))) := zSt_X hA hM4 (i := 9) (v := ((sX (tL S g 0 ((sL S g 0).eraseIdx 0)) 9) + (1 : Int32))) (by decide) (by decide)
  refine zr_aload0 X dX12_pass_25 ?_
  refine zr_dupR X dX12_pass_26 ?_
  refine zr_getI X zf_X12_19 rfl dX12_pass_27 ?_
  refine zr_eq (x2 := (sX (tX (tL S g 0 ((sL S g 0).eraseIdx 0)) 9 ((sX (tL S g 0 ((sL S g 0).eraseIdx 0)) 9) + (1 : Int32))) 3)) (hM_1.2.2.1 3 (by decide) (by decide)) ?_
  refine zr_iconst (v := (1 : Int32)) X dX12_pass_30 (by decide) ?_
  refine zr_iadd X dX12_pass_31 ?_
  refine zr_putI X zf_X12_19 rfl (Or.inl rfl) dX12_pass_32 ?_
  have hM_2 : zSt _ A n7 m7 (tX (tX (tL S g 0 ((sL S g 0).eraseIdx 0)) 9 ((sX (tL S g 0 ((sL S g 0).eraseIdx 0)) 9) + (1 : Int32))) 3 ((sX (tX (tL S g 0 ((sL S g 0).eraseIdx 0)) 9 ((sX (tL S g 0 ((sL S g 0).eraseIdx 0)) 9) + (1 : Int32))) 3) + (1 : Int32))) := zSt_X hA hM_1 (i := 3) (v := ((sX (tX (tL S g 0 ((sL S g 0).eraseIdx 0)) 9 ((sX (tL S g 0 ((sL S g 0).eraseIdx 0)) 9) + (1 : Int32))) 3) + (1 : Int32))) (by decide) (by decide)
  refine zr_goto (tgt := 58) X dX12_pass_35 (by decide) ?_
  refine zr_iload4 X dX12_pass_58 ?_
  refine zr_if_ge (tgt := 64) X dX12_pass_60 (by decide) (fun h => absurd h (by decide)) (fun _ => ?_)
  refine zr_vret X (by decide) (by decide) dX12_pass_63 ?_
  refine k1 _ (by repeat (first | exact zgA.rf | assumption | refine zgA.put ?_ (by unfold zvd; omega) | refine zgA.two ?_ (by assumption) (by unfold zvd; omega) (by unfold zvd; omega) | refine zgA.tr ?_ (by assumption))) ?_
  refine cast (congrArg (zSt _ A n7 m7) ?_) hM_2
  rw [qGoes, hw, qGone, if_pos (by decide), if_pos (by omega)]
  rfl
set_option maxRecDepth 20000 in
theorem zp011_X12_pass {l : Launch} {D : va_G} {b0 : Nat} {tA : Nat → ClassId} {sa sv : Nat → Nat} {K : zKt} {I : zI} {Qp : zI → Option AV → Prop} {Xp : String → zI → Prop} {A : Nat → Nat} {n7 m7 g c9 : Nat} {S : zS}
    (hS : zSh K A n7 m7) (hM : zSt I A n7 m7 S) (hg : g < n7) (hl9 : (sL S g 0).length ≤ 10) (hl : 0 < (sL S g 0).length) (hw : (sL S g 0).getD 0 0 = c9 + 1) (hc : c9 < m7) (k1 : ∀ J : zI, zgA I J A n7 m7 → zSt J A n7 m7 (qGoes S g 0) → Qp J none) :
    zC l D b0 tA sa sv K yX12_pass (.code yX12_pass cX12_pass 5 none) zrm_X12_pass [vr (A (0)) 17, vr (A (4 + 5 * g)) 14, vi ((0 : Int32)), vi ((1 : Int32))] I Qp Xp := by
  have hA := hS.1
  have hn6 := hM.1.1
  have hm12 := hM.1.2
  refine zC_of (by decide +kernel) (Nat.le_of_ble_eq_true rfl) ?_
  intro p e s m args below meth c X hnt
  have X : zX p l e zrm_X12_pass s m args below meth c RX12 cX12_pass 5 none D b0 tA sa sv := X
  refine zr_lv (lv2 := [some (vr (A (0)) 17), some (vr (A (4 + 5 * g)) 14), some (vi ((0 : Int32))), some (vi ((1 : Int32))), none]) rfl ?_
  refine zr_aload1 X dX12_pass_0 ?_
  refine zr_iload2 X dX12_pass_1 ?_
  refine zr_callV1 (rm9 := zrm_X9_line) X hnt zm_X12_94 (by decide) (by decide) (by decide) (Nat.le_of_ble_eq_true rfl) dX12_pass_2 ?_
  refine zp0_X9_line hS (by omega) ?_
  refine zr_iconst (v := (0 : Int32)) X dX12_pass_5 (by decide) ?_
  refine zr_callV1 (rm9 := zrm_X10_take) X hnt zm_X12_98 (by decide) (by decide) (by decide) (Nat.le_of_ble_eq_true rfl) dX12_pass_6 ?_
  refine zp_X10_take (w := (sL S g 0)) (k := 0) (hM.2.2.2.2.1 g (by omega)).2.1 ((hS.2.2.1 g (by omega)).2.2.2.1) (fun z => absurd (hA _ _ z) (by omega)) (by omega) (by have := hl9; omega) ?_
  intro J1 hg2 hl3; have hM4 : zSt J1 A n7 m7 (tL S g 0 ((sL S g 0).eraseIdx 0)) := zSt_L hA hM (show g < n7 by omega) (Or.inl ⟨rfl, rfl, rfl⟩) hg2 hl3
  refine zr_eq (x2 := (nI c9)) (by rw [hw]; exact pk_sub (a := c9 + 1) (b := 1) (by omega)) ?_
  refine zr_istore4 X (by decide) rfl dX12_pass_9 ?_
  refine zr_iload2 X dX12_pass_11 ?_
  refine zr_if_ne (tgt := 38) X dX12_pass_12 (by decide) (fun h => absurd h (by decide)) (fun _ => ?_)
  refine zr_aload0 X dX12_pass_15 ?_
  refine zr_dupR X dX12_pass_16 ?_
  refine zr_getI X zf_X12_44 rfl dX12_pass_17 ?_
  refine zr_eq (x2 := (sX (tL S g 0 ((sL S g 0).eraseIdx 0)) 9)) (hM4.2.2.1 9 (by decide) (by decide)) ?_
  refine zr_iconst (v := (1 : Int32)) X dX12_pass_20 (by decide) ?_
  refine zr_iadd X dX12_pass_21 ?_
  refine zr_putI X zf_X12_44 rfl (Or.inl rfl) dX12_pass_22 ?_
  have hM_1 : zSt _ A n7 m7 (tX (tL S g 0 ((sL S g 0).eraseIdx 0)) 9 ((sX (tL S g 0 ((sL S g 0).eraseIdx 0)) 9) + (1 : Int32))) := zSt_X hA hM4 (i := 9) (v := ((sX (tL S g 0 ((sL S g 0).eraseIdx 0)) 9) + (1 : Int32))) (by decide) (by decide)
  refine zr_aload0 X dX12_pass_25 ?_
  refine zr_dupR X dX12_pass_26 ?_
  refine zr_getI X zf_X12_19 rfl dX12_pass_27 ?_
  refine zr_eq (x2 := (sX (tX (tL S g 0 ((sL S g 0).eraseIdx 0)) 9 ((sX (tL S g 0 ((sL S g 0).eraseIdx 0)) 9) + (1 : Int32))) 3)) (hM_1.2.2.1 3 (by decide) (by decide)) ?_
  refine zr_iconst (v := (1 : Int32)) X dX12_pass_30 (by decide) ?_
  refine zr_iadd X dX12_pass_31 ?_
  refine zr_putI X zf_X12_19 rfl (Or.inl rfl) dX12_pass_32 ?_
  have hM_2 : zSt _ A n7 m7 (tX (tX (tL S g 0 ((sL S g 0).eraseIdx 0)) 9 ((sX (tL S g 0 ((sL S g 0).eraseIdx 0)) 9) + (1 : Int32))) 3 ((sX (tX (tL S g 0 ((sL S g 0).eraseIdx 0)) 9 ((sX (tL S g 0 ((sL S g 0).eraseIdx 0)) 9) + (1 : Int32))) 3) + (1 : Int32))) := zSt_X hA hM_1 (i := 3) (v := ((sX (tX (tL S g 0 ((sL S g 0).eraseIdx 0)) 9 ((sX (tL S g 0 ((sL S g 0).eraseIdx 0)) 9) + (1 : Int32))) 3) + (1 : Int32))) (by decide) (by decide)
  refine zr_goto (tgt := 58) X dX12_pass_35 (by decide) ?_
  refine zr_iload4 X dX12_pass_58 ?_
  refine zr_nif_ge X (c9) (tgt := 64) (by omega) dX12_pass_60 (by decide) (fun _ => ?_) (fun h => absurd trivial h)
  refine zr_aload0 X dX12_pass_64 ?_
  refine zr_getD (r := A (2)) X zf_X12_36 rfl (by decide) (hS.2.1.2.2.1) dX12_pass_65 ?_
  refine zr_iload4 X dX12_pass_68 ?_
  refine zr_aaldD (k := 21) (n := c9) (r := A (40 + c9)) X rfl (show _ < 12 from (by first | decide | omega)) (hS.2.2.2.1 c9 (by omega)) dX12_pass_70 ?_
  refine zr_iload2 X dX12_pass_71 ?_
  refine zr_if_ne (tgt := 79) X dX12_pass_72 (by decide) (fun h => absurd h (by decide)) (fun _ => ?_)
  refine zr_iconst (v := (1 : Int32)) X dX12_pass_75 (by decide) ?_
  refine zr_goto (tgt := 80) X dX12_pass_76 (by decide) ?_
  refine zr_putI X zf_X12_73 rfl (Or.inr (by first | decide | assumption | (simp; done))) dX12_pass_80 ?_
  have hM_3 : zSt _ A n7 m7 (tC (tX (tX (tL S g 0 ((sL S g 0).eraseIdx 0)) 9 ((sX (tL S g 0 ((sL S g 0).eraseIdx 0)) 9) + (1 : Int32))) 3 ((sX (tX (tL S g 0 ((sL S g 0).eraseIdx 0)) 9 ((sX (tL S g 0 ((sL S g 0).eraseIdx 0)) 9) + (1 : Int32))) 3) + (1 : Int32))) c9 1 (1 : Int32)) := zSt_C hA hM_2 (show c9 < m7 by omega) (j := 1) (v := (1 : Int32)) (by decide)
  refine zr_aload0 X dX12_pass_83 ?_
  refine zr_getD (r := A (2)) X zf_X12_36 rfl (by decide) (hS.2.1.2.2.1) dX12_pass_84 ?_
  refine zr_iload4 X dX12_pass_87 ?_
  refine zr_aaldD (k := 21) (n := c9) (r := A (40 + c9)) X rfl (show _ < 12 from (by first | decide | omega)) (hS.2.2.2.1 c9 (by omega)) dX12_pass_89 ?_
  refine zr_dupR X dX12_pass_90 ?_
  refine zr_getI X zf_X12_80 rfl dX12_pass_91 ?_
  refine zr_eq (x2 := (sC (tC (tX (tX (tL S g 0 ((sL S g 0).eraseIdx 0)) 9 ((sX (tL S g 0 ((sL S g 0).eraseIdx 0)) 9) + (1 : Int32))) 3 ((sX (tX (tL S g 0 ((sL S g 0).eraseIdx 0)) 9 ((sX (tL S g 0 ((sL S g 0).eraseIdx 0)) 9) + (1 : Int32))) 3) + (1 : Int32))) c9 1 (1 : Int32)) c9 3)) (hM_3.2.2.2.2.2 c9 (by omega) 3 (by decide)) ?_
  refine zr_iconst (v := (1 : Int32)) X dX12_pass_94 (by decide) ?_
  refine zr_iadd X dX12_pass_95 ?_
  refine zr_putI X zf_X12_80 rfl (Or.inl rfl) dX12_pass_96 ?_
  have hM_4 : zSt _ A n7 m7 (tC (tC (tX (tX (tL S g 0 ((sL S g 0).eraseIdx 0)) 9 ((sX (tL S g 0 ((sL S g 0).eraseIdx 0)) 9) + (1 : Int32))) 3 ((sX (tX (tL S g 0 ((sL S g 0).eraseIdx 0)) 9 ((sX (tL S g 0 ((sL S g 0).eraseIdx 0)) 9) + (1 : Int32))) 3) + (1 : Int32))) c9 1 (1 : Int32)) c9 3 ((sC (tC (tX (tX (tL S g 0 ((sL S g 0).eraseIdx 0)) 9 ((sX (tL S g 0 ((sL S g 0).eraseIdx 0)) 9) + (1 : Int32))) 3 ((sX (tX (tL S g 0 ((sL S g 0).eraseIdx 0)) 9 ((sX (tL S g 0 ((sL S g 0).eraseIdx 0)) 9) + (1 : Int32))) 3) + (1 : Int32))) c9 1 (1 : Int32)) c9 3) + (1 : Int32))) := zSt_C hA hM_3 (show c9 < m7 by omega) (j := 3) (v := ((sC (tC (tX (tX (tL S g 0 ((sL S g 0).eraseIdx 0)) 9 ((sX (tL S g 0 ((sL S g 0).eraseIdx 0)) 9) + (1 : Int32))) 3 ((sX (tX (tL S g 0 ((sL S g 0).eraseIdx 0)) 9 ((sX (tL S g 0 ((sL S g 0).eraseIdx 0)) 9) + (1 : Int32))) 3) + (1 : Int32))) c9 1 (1 : Int32)) c9 3) + (1 : Int32))) (by decide)
  refine zr_iload3 X dX12_pass_99 ?_
  refine zr_if_eq (tgt := 123) X dX12_pass_100 (by decide) (fun h => absurd h (by decide)) (fun _ => ?_)
  refine zr_iload2 X dX12_pass_103 ?_
  refine zr_if_ne (tgt := 123) X dX12_pass_104 (by decide) (fun h => absurd h (by decide)) (fun _ => ?_)
  refine zr_aload0 X dX12_pass_107 ?_
  refine zr_getD (r := A (2)) X zf_X12_36 rfl (by decide) (hS.2.1.2.2.1) dX12_pass_108 ?_
  refine zr_iload4 X dX12_pass_111 ?_
  refine zr_aaldD (k := 21) (n := c9) (r := A (40 + c9)) X rfl (show _ < 12 from (by first | decide | omega)) (hS.2.2.2.1 c9 (by omega)) dX12_pass_113 ?_
  refine zr_dupR X dX12_pass_114 ?_
  refine zr_getI X zf_X12_67 rfl dX12_pass_115 ?_
  refine zr_eq (x2 := (sC (tC (tC (tX (tX (tL S g 0 ((sL S g 0).eraseIdx 0)) 9 ((sX (tL S g 0 ((sL S g 0).eraseIdx 0)) 9) + (1 : Int32))) 3 ((sX (tX (tL S g 0 ((sL S g 0).eraseIdx 0)) 9 ((sX (tL S g 0 ((sL S g 0).eraseIdx 0)) 9) + (1 : Int32))) 3) + (1 : Int32))) c9 1 (1 : Int32)) c9 3 ((sC (tC (tX (tX (tL S g 0 ((sL S g 0).eraseIdx 0)) 9 ((sX (tL S g 0 ((sL S g 0).eraseIdx 0)) 9) + (1 : Int32))) 3 ((sX (tX (tL S g 0 ((sL S g 0).eraseIdx 0)) 9 ((sX (tL S g 0 ((sL S g 0).eraseIdx 0)) 9) + (1 : Int32))) 3) + (1 : Int32))) c9 1 (1 : Int32)) c9 3) + (1 : Int32))) c9 0)) (hM_4.2.2.2.2.2 c9 (by omega) 0 (by decide)) ?_
  refine zr_iconst (v := (1 : Int32)) X dX12_pass_118 (by decide) ?_
  refine zr_isub X dX12_pass_119 ?_
  refine zr_putI X zf_X12_67 rfl (Or.inl rfl) dX12_pass_120 ?_
  have hM_5 : zSt _ A n7 m7 (tC (tC (tC (tX (tX (tL S g 0 ((sL S g 0).eraseIdx 0)) 9 ((sX (tL S g 0 ((sL S g 0).eraseIdx 0)) 9) + (1 : Int32))) 3 ((sX (tX (tL S g 0 ((sL S g 0).eraseIdx 0)) 9 ((sX (tL S g 0 ((sL S g 0).eraseIdx 0)) 9) + (1 : Int32))) 3) + (1 : Int32))) c9 1 (1 : Int32)) c9 3 ((sC (tC (tX (tX (tL S g 0 ((sL S g 0).eraseIdx 0)) 9 ((sX (tL S g 0 ((sL S g 0).eraseIdx 0)) 9) + (1 : Int32))) 3 ((sX (tX (tL S g 0 ((sL S g 0).eraseIdx 0)) 9 ((sX (tL S g 0 ((sL S g 0).eraseIdx 0)) 9) + (1 : Int32))) 3) + (1 : Int32))) c9 1 (1 : Int32)) c9 3) + (1 : Int32))) c9 0 ((sC (tC (tC (tX (tX (tL S g 0 ((sL S g 0).eraseIdx 0)) 9 ((sX (tL S g 0 ((sL S g 0).eraseIdx 0)) 9) + (1 : Int32))) 3 ((sX (tX (tL S g 0 ((sL S g 0).eraseIdx 0)) 9 ((sX (tL S g 0 ((sL S g 0).eraseIdx 0)) 9) + (1 : Int32))) 3) + (1 : Int32))) c9 1 (1 : Int32)) c9 3 ((sC (tC (tX (tX (tL S g 0 ((sL S g 0).eraseIdx 0)) 9 ((sX (tL S g 0 ((sL S g 0).eraseIdx 0)) 9) + (1 : Int32))) 3 ((sX (tX (tL S g 0 ((sL S g 0).eraseIdx 0)) 9 ((sX (tL S g 0 ((sL S g 0).eraseIdx 0)) 9) + (1 : Int32))) 3) + (1 : Int32))) c9 1 (1 : Int32)) c9 3) + (1 : Int32))) c9 0) - (1 : Int32))) := zSt_C hA hM_4 (show c9 < m7 by omega) (j := 0) (v := ((sC (tC (tC (tX (tX (tL S g 0 ((sL S g 0).eraseIdx 0)) 9 ((sX (tL S g 0 ((sL S g 0).eraseIdx 0)) 9) + (1 : Int32))) 3 ((sX (tX (tL S g 0 ((sL S g 0).eraseIdx 0)) 9 ((sX (tL S g 0 ((sL S g 0).eraseIdx 0)) 9) + (1 : Int32))) 3) + (1 : Int32))) c9 1 (1 : Int32)) c9 3 ((sC (tC (tX (tX (tL S g 0 ((sL S g 0).eraseIdx 0)) 9 ((sX (tL S g 0 ((sL S g 0).eraseIdx 0)) 9) + (1 : Int32))) 3 ((sX (tX (tL S g 0 ((sL S g 0).eraseIdx 0)) 9 ((sX (tL S g 0 ((sL S g 0).eraseIdx 0)) 9) + (1 : Int32))) 3) + (1 : Int32))) c9 1 (1 : Int32)) c9 3) + (1 : Int32))) c9 0) - (1 : Int32))) (by decide)
  refine zr_vret X (by decide) (by decide) dX12_pass_123 ?_
  refine k1 _ (by repeat (first | exact zgA.rf | assumption | refine zgA.put ?_ (by unfold zvd; omega) | refine zgA.two ?_ (by assumption) (by unfold zvd; omega) (by unfold zvd; omega) | refine zgA.tr ?_ (by assumption))) ?_
  refine cast (congrArg (zSt _ A n7 m7) ?_) hM_5
  rw [qGoes, hw, qGone, if_pos (by decide), if_neg (by omega)]
  rw [tC_comm (show (3 : Nat) ≠ 0 by decide)]; simp only [Nat.add_sub_cancel, qPassed]; first | rfl | (simp [tC, tX, tL, sX, sC, zu2, va_up]; done)
theorem zq01_X12_pass {l : Launch} {D : va_G} {b0 : Nat} {tA : Nat → ClassId} {sa sv : Nat → Nat} {K : zKt} {I : zI} {Qp : zI → Option AV → Prop} {Xp : String → zI → Prop} {A : Nat → Nat} {n7 m7 g : Nat} {S : zS} (hS : zSh K A n7 m7) (hM : zSt I A n7 m7 S) (hg : g < n7) (hl9 : (sL S g 0).length ≤ 10) (hl : 0 < (sL S g 0).length) (hw : ∀ y ∈ sL S g 0, y ≤ m7) (k1 : ∀ J : zI, zgA I J A n7 m7 → zSt J A n7 m7 (qGoes S g 0) → Qp J none) :
    zC l D b0 tA sa sv K yX12_pass (.code yX12_pass cX12_pass 5 none) zrm_X12_pass [vr (A (0)) 17, vr (A (4 + 5 * g)) 14, vi ((0 : Int32)), vi ((1 : Int32))] I Qp Xp := by
  rcases h : (sL S g 0).getD 0 0 with _ | c
  · exact zp010_X12_pass hS hM hg hl9 hl h k1
  · exact zp011_X12_pass hS hM hg hl9 hl h (by have := zgd_m hw 0; omega) k1
set_option maxRecDepth 20000 in
theorem zp110_X12_pass {l : Launch} {D : va_G} {b0 : Nat} {tA : Nat → ClassId} {sa sv : Nat → Nat} {K : zKt} {I : zI} {Qp : zI → Option AV → Prop} {Xp : String → zI → Prop} {A : Nat → Nat} {n7 m7 g : Nat} {S : zS}
    (hS : zSh K A n7 m7) (hM : zSt I A n7 m7 S) (hg : g < n7) (hl9 : (sL S g 1).length ≤ 10) (hl : 0 < (sL S g 1).length) (hw : (sL S g 1).getD 0 0 = 0) (k1 : ∀ J : zI, zgA I J A n7 m7 → zSt J A n7 m7 (qGoes S g 1) → Qp J none) :
    zC l D b0 tA sa sv K yX12_pass (.code yX12_pass cX12_pass 5 none) zrm_X12_pass [vr (A (0)) 17, vr (A (4 + 5 * g)) 14, vi ((1 : Int32)), vi ((1 : Int32))] I Qp Xp := by
  have hA := hS.1
  have hn6 := hM.1.1
  have hm12 := hM.1.2
  refine zC_of (by decide +kernel) (Nat.le_of_ble_eq_true rfl) ?_
  intro p e s m args below meth c X hnt
  have X : zX p l e zrm_X12_pass s m args below meth c RX12 cX12_pass 5 none D b0 tA sa sv := X
  refine zr_lv (lv2 := [some (vr (A (0)) 17), some (vr (A (4 + 5 * g)) 14), some (vi ((1 : Int32))), some (vi ((1 : Int32))), none]) rfl ?_
  refine zr_aload1 X dX12_pass_0 ?_
  refine zr_iload2 X dX12_pass_1 ?_
  refine zr_callV1 (rm9 := zrm_X9_line) X hnt zm_X12_94 (by decide) (by decide) (by decide) (Nat.le_of_ble_eq_true rfl) dX12_pass_2 ?_
  refine zp1_X9_line hS (by omega) ?_
  refine zr_iconst (v := (0 : Int32)) X dX12_pass_5 (by decide) ?_
  refine zr_callV1 (rm9 := zrm_X10_take) X hnt zm_X12_98 (by decide) (by decide) (by decide) (Nat.le_of_ble_eq_true rfl) dX12_pass_6 ?_
  refine zp_X10_take (w := (sL S g 1)) (k := 0) (hM.2.2.2.2.1 g (by omega)).2.2 ((hS.2.2.1 g (by omega)).2.2.2.2) (fun z => absurd (hA _ _ z) (by omega)) (by omega) (by have := hl9; omega) ?_
  intro J1 hg2 hl3; have hM4 : zSt J1 A n7 m7 (tL S g 1 ((sL S g 1).eraseIdx 0)) := zSt_L hA hM (show g < n7 by omega) (Or.inr ⟨rfl, rfl, rfl⟩) hg2 hl3
  refine zr_eq (x2 := (-1 : Int32)) (by rw [hw]; rfl) ?_
  refine zr_istore4 X (by decide) rfl dX12_pass_9 ?_
  refine zr_iload2 X dX12_pass_11 ?_
  refine zr_if_ne (tgt := 38) X dX12_pass_12 (by decide) (fun _ => ?_) (fun h => absurd h (by decide))
  refine zr_aload0 X dX12_pass_38 ?_
  refine zr_dupR X dX12_pass_39 ?_
  refine zr_getI X zf_X12_47 rfl dX12_pass_40 ?_
  refine zr_eq (x2 := (sX (tL S g 1 ((sL S g 1).eraseIdx 0)) 10)) (hM4.2.2.1 10 (by decide) (by decide)) ?_
  refine zr_iconst (v := (1 : Int32)) X dX12_pass_43 (by decide) ?_
  refine zr_iadd X dX12_pass_44 ?_
  refine zr_putI X zf_X12_47 rfl (Or.inl rfl) dX12_pass_45 ?_
  have hM_1 : zSt _ A n7 m7 (tX (tL S g 1 ((sL S g 1).eraseIdx 0)) 10 ((sX (tL S g 1 ((sL S g 1).eraseIdx 0)) 10) + (1 : Int32))) := zSt_X hA hM4 (i := 10) (v := ((sX (tL S g 1 ((sL S g 1).eraseIdx 0)) 10) + (1 : Int32))) (by decide) (by decide)
  refine zr_aload0 X dX12_pass_48 ?_
  refine zr_dupR X dX12_pass_49 ?_
  refine zr_getI X zf_X12_19 rfl dX12_pass_50 ?_
  refine zr_eq (x2 := (sX (tX (tL S g 1 ((sL S g 1).eraseIdx 0)) 10 ((sX (tL S g 1 ((sL S g 1).eraseIdx 0)) 10) + (1 : Int32))) 3)) (hM_1.2.2.1 3 (by decide) (by decide)) ?_
  refine zr_iconst (v := (1 : Int32)) X dX12_pass_53 (by decide) ?_
  refine zr_isub X dX12_pass_54 ?_
  refine zr_putI X zf_X12_19 rfl (Or.inl rfl) dX12_pass_55 ?_
  have hM_2 : zSt _ A n7 m7 (tX (tX (tL S g 1 ((sL S g 1).eraseIdx 0)) 10 ((sX (tL S g 1 ((sL S g 1).eraseIdx 0)) 10) + (1 : Int32))) 3 ((sX (tX (tL S g 1 ((sL S g 1).eraseIdx 0)) 10 ((sX (tL S g 1 ((sL S g 1).eraseIdx 0)) 10) + (1 : Int32))) 3) - (1 : Int32))) := zSt_X hA hM_1 (i := 3) (v := ((sX (tX (tL S g 1 ((sL S g 1).eraseIdx 0)) 10 ((sX (tL S g 1 ((sL S g 1).eraseIdx 0)) 10) + (1 : Int32))) 3) - (1 : Int32))) (by decide) (by decide)
  refine zr_iload4 X dX12_pass_58 ?_
  refine zr_if_ge (tgt := 64) X dX12_pass_60 (by decide) (fun h => absurd h (by decide)) (fun _ => ?_)
  refine zr_vret X (by decide) (by decide) dX12_pass_63 ?_
  refine k1 _ (by repeat (first | exact zgA.rf | assumption | refine zgA.put ?_ (by unfold zvd; omega) | refine zgA.two ?_ (by assumption) (by unfold zvd; omega) (by unfold zvd; omega) | refine zgA.tr ?_ (by assumption))) ?_
  refine cast (congrArg (zSt _ A n7 m7) ?_) hM_2
  rw [qGoes, hw, qGone, if_neg (by decide), if_pos (by omega)]
  rfl
set_option maxRecDepth 20000 in
theorem zp111_X12_pass {l : Launch} {D : va_G} {b0 : Nat} {tA : Nat → ClassId} {sa sv : Nat → Nat} {K : zKt} {I : zI} {Qp : zI → Option AV → Prop} {Xp : String → zI → Prop} {A : Nat → Nat} {n7 m7 g c9 : Nat} {S : zS}
    (hS : zSh K A n7 m7) (hM : zSt I A n7 m7 S) (hg : g < n7) (hl9 : (sL S g 1).length ≤ 10) (hl : 0 < (sL S g 1).length) (hw : (sL S g 1).getD 0 0 = c9 + 1) (hc : c9 < m7) (k1 : ∀ J : zI, zgA I J A n7 m7 → zSt J A n7 m7 (qGoes S g 1) → Qp J none) :
    zC l D b0 tA sa sv K yX12_pass (.code yX12_pass cX12_pass 5 none) zrm_X12_pass [vr (A (0)) 17, vr (A (4 + 5 * g)) 14, vi ((1 : Int32)), vi ((1 : Int32))] I Qp Xp := by
  have hA := hS.1
  have hn6 := hM.1.1
  have hm12 := hM.1.2
  refine zC_of (by decide +kernel) (Nat.le_of_ble_eq_true rfl) ?_
  intro p e s m args below meth c X hnt
  have X : zX p l e zrm_X12_pass s m args below meth c RX12 cX12_pass 5 none D b0 tA sa sv := X
  refine zr_lv (lv2 := [some (vr (A (0)) 17), some (vr (A (4 + 5 * g)) 14), some (vi ((1 : Int32))), some (vi ((1 : Int32))), none]) rfl ?_
  refine zr_aload1 X dX12_pass_0 ?_
  refine zr_iload2 X dX12_pass_1 ?_
  refine zr_callV1 (rm9 := zrm_X9_line) X hnt zm_X12_94 (by decide) (by decide) (by decide) (Nat.le_of_ble_eq_true rfl) dX12_pass_2 ?_
  refine zp1_X9_line hS (by omega) ?_
  refine zr_iconst (v := (0 : Int32)) X dX12_pass_5 (by decide) ?_
  refine zr_callV1 (rm9 := zrm_X10_take) X hnt zm_X12_98 (by decide) (by decide) (by decide) (Nat.le_of_ble_eq_true rfl) dX12_pass_6 ?_
  refine zp_X10_take (w := (sL S g 1)) (k := 0) (hM.2.2.2.2.1 g (by omega)).2.2 ((hS.2.2.1 g (by omega)).2.2.2.2) (fun z => absurd (hA _ _ z) (by omega)) (by omega) (by have := hl9; omega) ?_
  intro J1 hg2 hl3; have hM4 : zSt J1 A n7 m7 (tL S g 1 ((sL S g 1).eraseIdx 0)) := zSt_L hA hM (show g < n7 by omega) (Or.inr ⟨rfl, rfl, rfl⟩) hg2 hl3
  refine zr_eq (x2 := (nI c9)) (by rw [hw]; exact pk_sub (a := c9 + 1) (b := 1) (by omega)) ?_
  refine zr_istore4 X (by decide) rfl dX12_pass_9 ?_
  refine zr_iload2 X dX12_pass_11 ?_
  refine zr_if_ne (tgt := 38) X dX12_pass_12 (by decide) (fun _ => ?_) (fun h => absurd h (by decide))
  refine zr_aload0 X dX12_pass_38 ?_
  refine zr_dupR X dX12_pass_39 ?_
  refine zr_getI X zf_X12_47 rfl dX12_pass_40 ?_
  refine zr_eq (x2 := (sX (tL S g 1 ((sL S g 1).eraseIdx 0)) 10)) (hM4.2.2.1 10 (by decide) (by decide)) ?_
  refine zr_iconst (v := (1 : Int32)) X dX12_pass_43 (by decide) ?_
  refine zr_iadd X dX12_pass_44 ?_
  refine zr_putI X zf_X12_47 rfl (Or.inl rfl) dX12_pass_45 ?_
  have hM_1 : zSt _ A n7 m7 (tX (tL S g 1 ((sL S g 1).eraseIdx 0)) 10 ((sX (tL S g 1 ((sL S g 1).eraseIdx 0)) 10) + (1 : Int32))) := zSt_X hA hM4 (i := 10) (v := ((sX (tL S g 1 ((sL S g 1).eraseIdx 0)) 10) + (1 : Int32))) (by decide) (by decide)
  refine zr_aload0 X dX12_pass_48 ?_
  refine zr_dupR X dX12_pass_49 ?_
  refine zr_getI X zf_X12_19 rfl dX12_pass_50 ?_
  refine zr_eq (x2 := (sX (tX (tL S g 1 ((sL S g 1).eraseIdx 0)) 10 ((sX (tL S g 1 ((sL S g 1).eraseIdx 0)) 10) + (1 : Int32))) 3)) (hM_1.2.2.1 3 (by decide) (by decide)) ?_
  refine zr_iconst (v := (1 : Int32)) X dX12_pass_53 (by decide) ?_
  refine zr_isub X dX12_pass_54 ?_
  refine zr_putI X zf_X12_19 rfl (Or.inl rfl) dX12_pass_55 ?_
  have hM_2 : zSt _ A n7 m7 (tX (tX (tL S g 1 ((sL S g 1).eraseIdx 0)) 10 ((sX (tL S g 1 ((sL S g 1).eraseIdx 0)) 10) + (1 : Int32))) 3 ((sX (tX (tL S g 1 ((sL S g 1).eraseIdx 0)) 10 ((sX (tL S g 1 ((sL S g 1).eraseIdx 0)) 10) + (1 : Int32))) 3) - (1 : Int32))) := zSt_X hA hM_1 (i := 3) (v := ((sX (tX (tL S g 1 ((sL S g 1).eraseIdx 0)) 10 ((sX (tL S g 1 ((sL S g 1).eraseIdx 0)) 10) + (1 : Int32))) 3) - (1 : Int32))) (by decide) (by decide)
  refine zr_iload4 X dX12_pass_58 ?_
  refine zr_nif_ge X (c9) (tgt := 64) (by omega) dX12_pass_60 (by decide) (fun _ => ?_) (fun h => absurd trivial h)
  refine zr_aload0 X dX12_pass_64 ?_
  refine zr_getD (r := A (2)) X zf_X12_36 rfl (by decide) (hS.2.1.2.2.1) dX12_pass_65 ?_
  refine zr_iload4 X dX12_pass_68 ?_
  refine zr_aaldD (k := 21) (n := c9) (r := A (40 + c9)) X rfl (show _ < 12 from (by first | decide | omega)) (hS.2.2.2.1 c9 (by omega)) dX12_pass_70 ?_
  refine zr_iload2 X dX12_pass_71 ?_
  refine zr_if_ne (tgt := 79) X dX12_pass_72 (by decide) (fun _ => ?_) (fun h => absurd h (by decide))
  refine zr_iconst (v := (0 : Int32)) X dX12_pass_79 (by decide) ?_
  refine zr_putI X zf_X12_73 rfl (Or.inr (by first | decide | assumption | (simp; done))) dX12_pass_80 ?_
  have hM_3 : zSt _ A n7 m7 (tC (tX (tX (tL S g 1 ((sL S g 1).eraseIdx 0)) 10 ((sX (tL S g 1 ((sL S g 1).eraseIdx 0)) 10) + (1 : Int32))) 3 ((sX (tX (tL S g 1 ((sL S g 1).eraseIdx 0)) 10 ((sX (tL S g 1 ((sL S g 1).eraseIdx 0)) 10) + (1 : Int32))) 3) - (1 : Int32))) c9 1 (0 : Int32)) := zSt_C hA hM_2 (show c9 < m7 by omega) (j := 1) (v := (0 : Int32)) (by decide)
  refine zr_aload0 X dX12_pass_83 ?_
  refine zr_getD (r := A (2)) X zf_X12_36 rfl (by decide) (hS.2.1.2.2.1) dX12_pass_84 ?_
  refine zr_iload4 X dX12_pass_87 ?_
  refine zr_aaldD (k := 21) (n := c9) (r := A (40 + c9)) X rfl (show _ < 12 from (by first | decide | omega)) (hS.2.2.2.1 c9 (by omega)) dX12_pass_89 ?_
  refine zr_dupR X dX12_pass_90 ?_
  refine zr_getI X zf_X12_80 rfl dX12_pass_91 ?_
  refine zr_eq (x2 := (sC (tC (tX (tX (tL S g 1 ((sL S g 1).eraseIdx 0)) 10 ((sX (tL S g 1 ((sL S g 1).eraseIdx 0)) 10) + (1 : Int32))) 3 ((sX (tX (tL S g 1 ((sL S g 1).eraseIdx 0)) 10 ((sX (tL S g 1 ((sL S g 1).eraseIdx 0)) 10) + (1 : Int32))) 3) - (1 : Int32))) c9 1 (0 : Int32)) c9 3)) (hM_3.2.2.2.2.2 c9 (by omega) 3 (by decide)) ?_
  refine zr_iconst (v := (1 : Int32)) X dX12_pass_94 (by decide) ?_
  refine zr_iadd X dX12_pass_95 ?_
  refine zr_putI X zf_X12_80 rfl (Or.inl rfl) dX12_pass_96 ?_
  have hM_4 : zSt _ A n7 m7 (tC (tC (tX (tX (tL S g 1 ((sL S g 1).eraseIdx 0)) 10 ((sX (tL S g 1 ((sL S g 1).eraseIdx 0)) 10) + (1 : Int32))) 3 ((sX (tX (tL S g 1 ((sL S g 1).eraseIdx 0)) 10 ((sX (tL S g 1 ((sL S g 1).eraseIdx 0)) 10) + (1 : Int32))) 3) - (1 : Int32))) c9 1 (0 : Int32)) c9 3 ((sC (tC (tX (tX (tL S g 1 ((sL S g 1).eraseIdx 0)) 10 ((sX (tL S g 1 ((sL S g 1).eraseIdx 0)) 10) + (1 : Int32))) 3 ((sX (tX (tL S g 1 ((sL S g 1).eraseIdx 0)) 10 ((sX (tL S g 1 ((sL S g 1).eraseIdx 0)) 10) + (1 : Int32))) 3) - (1 : Int32))) c9 1 (0 : Int32)) c9 3) + (1 : Int32))) := zSt_C hA hM_3 (show c9 < m7 by omega) (j := 3) (v := ((sC (tC (tX (tX (tL S g 1 ((sL S g 1).eraseIdx 0)) 10 ((sX (tL S g 1 ((sL S g 1).eraseIdx 0)) 10) + (1 : Int32))) 3 ((sX (tX (tL S g 1 ((sL S g 1).eraseIdx 0)) 10 ((sX (tL S g 1 ((sL S g 1).eraseIdx 0)) 10) + (1 : Int32))) 3) - (1 : Int32))) c9 1 (0 : Int32)) c9 3) + (1 : Int32))) (by decide)
  refine zr_iload3 X dX12_pass_99 ?_
  refine zr_if_eq (tgt := 123) X dX12_pass_100 (by decide) (fun h => absurd h (by decide)) (fun _ => ?_)
  refine zr_iload2 X dX12_pass_103 ?_
  refine zr_if_ne (tgt := 123) X dX12_pass_104 (by decide) (fun _ => ?_) (fun h => absurd h (by decide))
  refine zr_vret X (by decide) (by decide) dX12_pass_123 ?_
  refine k1 _ (by repeat (first | exact zgA.rf | assumption | refine zgA.put ?_ (by unfold zvd; omega) | refine zgA.two ?_ (by assumption) (by unfold zvd; omega) (by unfold zvd; omega) | refine zgA.tr ?_ (by assumption))) ?_
  refine cast (congrArg (zSt _ A n7 m7) ?_) hM_4
  rw [qGoes, hw, qGone, if_neg (by decide), if_neg (by omega)]
  simp only [Nat.add_sub_cancel, qPassed]; first | rfl | (simp [tC, tX, tL, sX, sC, zu2, va_up]; done)
theorem zq11_X12_pass {l : Launch} {D : va_G} {b0 : Nat} {tA : Nat → ClassId} {sa sv : Nat → Nat} {K : zKt} {I : zI} {Qp : zI → Option AV → Prop} {Xp : String → zI → Prop} {A : Nat → Nat} {n7 m7 g : Nat} {S : zS} (hS : zSh K A n7 m7) (hM : zSt I A n7 m7 S) (hg : g < n7) (hl9 : (sL S g 1).length ≤ 10) (hl : 0 < (sL S g 1).length) (hw : ∀ y ∈ sL S g 1, y ≤ m7) (k1 : ∀ J : zI, zgA I J A n7 m7 → zSt J A n7 m7 (qGoes S g 1) → Qp J none) :
    zC l D b0 tA sa sv K yX12_pass (.code yX12_pass cX12_pass 5 none) zrm_X12_pass [vr (A (0)) 17, vr (A (4 + 5 * g)) 14, vi ((1 : Int32)), vi ((1 : Int32))] I Qp Xp := by
  rcases h : (sL S g 1).getD 0 0 with _ | c
  · exact zp110_X12_pass hS hM hg hl9 hl h k1
  · exact zp111_X12_pass hS hM hg hl9 hl h (by have := zgd_m hw 0; omega) k1
set_option maxRecDepth 20000 in
theorem zp100_X12_pass {l : Launch} {D : va_G} {b0 : Nat} {tA : Nat → ClassId} {sa sv : Nat → Nat} {K : zKt} {I : zI} {Qp : zI → Option AV → Prop} {Xp : String → zI → Prop} {A : Nat → Nat} {n7 m7 g : Nat} {S : zS}
    (hS : zSh K A n7 m7) (hM : zSt I A n7 m7 S) (hg : g < n7) (hl9 : (sL S g 1).length ≤ 10) (hl : 0 < (sL S g 1).length) (hw : (sL S g 1).getD 0 0 = 0) (k1 : ∀ J : zI, zgA I J A n7 m7 → zSt J A n7 m7 (qGoes S g 1) → Qp J none) :
    zC l D b0 tA sa sv K yX12_pass (.code yX12_pass cX12_pass 5 none) zrm_X12_pass [vr (A (0)) 17, vr (A (4 + 5 * g)) 14, vi ((1 : Int32)), vi ((0 : Int32))] I Qp Xp := by
  have hA := hS.1
  have hn6 := hM.1.1
  have hm12 := hM.1.2
  refine zC_of (by decide +kernel) (Nat.le_of_ble_eq_true rfl) ?_
  intro p e s m args below meth c X hnt
  have X : zX p l e zrm_X12_pass s m args below meth c RX12 cX12_pass 5 none D b0 tA sa sv := X
  refine zr_lv (lv2 := [some (vr (A (0)) 17), some (vr (A (4 + 5 * g)) 14), some (vi ((1 : Int32))), some (vi ((0 : Int32))), none]) rfl ?_
  refine zr_aload1 X dX12_pass_0 ?_
  refine zr_iload2 X dX12_pass_1 ?_
  refine zr_callV1 (rm9 := zrm_X9_line) X hnt zm_X12_94 (by decide) (by decide) (by decide) (Nat.le_of_ble_eq_true rfl) dX12_pass_2 ?_
  refine zp1_X9_line hS (by omega) ?_
  refine zr_iconst (v := (0 : Int32)) X dX12_pass_5 (by decide) ?_
  refine zr_callV1 (rm9 := zrm_X10_take) X hnt zm_X12_98 (by decide) (by decide) (by decide) (Nat.le_of_ble_eq_true rfl) dX12_pass_6 ?_
  refine zp_X10_take (w := (sL S g 1)) (k := 0) (hM.2.2.2.2.1 g (by omega)).2.2 ((hS.2.2.1 g (by omega)).2.2.2.2) (fun z => absurd (hA _ _ z) (by omega)) (by omega) (by have := hl9; omega) ?_
  intro J1 hg2 hl3; have hM4 : zSt J1 A n7 m7 (tL S g 1 ((sL S g 1).eraseIdx 0)) := zSt_L hA hM (show g < n7 by omega) (Or.inr ⟨rfl, rfl, rfl⟩) hg2 hl3
  refine zr_eq (x2 := (-1 : Int32)) (by rw [hw]; rfl) ?_
  refine zr_istore4 X (by decide) rfl dX12_pass_9 ?_
  refine zr_iload2 X dX12_pass_11 ?_
  refine zr_if_ne (tgt := 38) X dX12_pass_12 (by decide) (fun _ => ?_) (fun h => absurd h (by decide))
  refine zr_aload0 X dX12_pass_38 ?_
  refine zr_dupR X dX12_pass_39 ?_
  refine zr_getI X zf_X12_47 rfl dX12_pass_40 ?_
  refine zr_eq (x2 := (sX (tL S g 1 ((sL S g 1).eraseIdx 0)) 10)) (hM4.2.2.1 10 (by decide) (by decide)) ?_
  refine zr_iconst (v := (1 : Int32)) X dX12_pass_43 (by decide) ?_
  refine zr_iadd X dX12_pass_44 ?_
  refine zr_putI X zf_X12_47 rfl (Or.inl rfl) dX12_pass_45 ?_
  have hM_1 : zSt _ A n7 m7 (tX (tL S g 1 ((sL S g 1).eraseIdx 0)) 10 ((sX (tL S g 1 ((sL S g 1).eraseIdx 0)) 10) + (1 : Int32))) := zSt_X hA hM4 (i := 10) (v := ((sX (tL S g 1 ((sL S g 1).eraseIdx 0)) 10) + (1 : Int32))) (by decide) (by decide)
  refine zr_aload0 X dX12_pass_48 ?_
  refine zr_dupR X dX12_pass_49 ?_
  refine zr_getI X zf_X12_19 rfl dX12_pass_50 ?_
  refine zr_eq (x2 := (sX (tX (tL S g 1 ((sL S g 1).eraseIdx 0)) 10 ((sX (tL S g 1 ((sL S g 1).eraseIdx 0)) 10) + (1 : Int32))) 3)) (hM_1.2.2.1 3 (by decide) (by decide)) ?_
  refine zr_iconst (v := (1 : Int32)) X dX12_pass_53 (by decide) ?_
  refine zr_isub X dX12_pass_54 ?_
  refine zr_putI X zf_X12_19 rfl (Or.inl rfl) dX12_pass_55 ?_
  have hM_2 : zSt _ A n7 m7 (tX (tX (tL S g 1 ((sL S g 1).eraseIdx 0)) 10 ((sX (tL S g 1 ((sL S g 1).eraseIdx 0)) 10) + (1 : Int32))) 3 ((sX (tX (tL S g 1 ((sL S g 1).eraseIdx 0)) 10 ((sX (tL S g 1 ((sL S g 1).eraseIdx 0)) 10) + (1 : Int32))) 3) - (1 : Int32))) := zSt_X hA hM_1 (i := 3) (v := ((sX (tX (tL S g 1 ((sL S g 1).eraseIdx 0)) 10 ((sX (tL S g 1 ((sL S g 1).eraseIdx 0)) 10) + (1 : Int32))) 3) - (1 : Int32))) (by decide) (by decide)
  refine zr_iload4 X dX12_pass_58 ?_
  refine zr_if_ge (tgt := 64) X dX12_pass_60 (by decide) (fun h => absurd h (by decide)) (fun _ => ?_)
  refine zr_vret X (by decide) (by decide) dX12_pass_63 ?_
  refine k1 _ (by repeat (first | exact zgA.rf | assumption | refine zgA.put ?_ (by unfold zvd; omega) | refine zgA.two ?_ (by assumption) (by unfold zvd; omega) (by unfold zvd; omega) | refine zgA.tr ?_ (by assumption))) ?_
  refine cast (congrArg (zSt _ A n7 m7) ?_) hM_2
  rw [qGoes, hw, qGone, if_neg (by decide), if_pos (by omega)]
  rfl
set_option maxRecDepth 20000 in
theorem zp101_X12_pass {l : Launch} {D : va_G} {b0 : Nat} {tA : Nat → ClassId} {sa sv : Nat → Nat} {K : zKt} {I : zI} {Qp : zI → Option AV → Prop} {Xp : String → zI → Prop} {A : Nat → Nat} {n7 m7 g c9 : Nat} {S : zS}
    (hS : zSh K A n7 m7) (hM : zSt I A n7 m7 S) (hg : g < n7) (hl9 : (sL S g 1).length ≤ 10) (hl : 0 < (sL S g 1).length) (hw : (sL S g 1).getD 0 0 = c9 + 1) (hc : c9 < m7) (k1 : ∀ J : zI, zgA I J A n7 m7 → zSt J A n7 m7 (qGoes S g 1) → Qp J none) :
    zC l D b0 tA sa sv K yX12_pass (.code yX12_pass cX12_pass 5 none) zrm_X12_pass [vr (A (0)) 17, vr (A (4 + 5 * g)) 14, vi ((1 : Int32)), vi ((0 : Int32))] I Qp Xp := by
  have hA := hS.1
  have hn6 := hM.1.1
  have hm12 := hM.1.2
  refine zC_of (by decide +kernel) (Nat.le_of_ble_eq_true rfl) ?_
  intro p e s m args below meth c X hnt
  have X : zX p l e zrm_X12_pass s m args below meth c RX12 cX12_pass 5 none D b0 tA sa sv := X
  refine zr_lv (lv2 := [some (vr (A (0)) 17), some (vr (A (4 + 5 * g)) 14), some (vi ((1 : Int32))), some (vi ((0 : Int32))), none]) rfl ?_
  refine zr_aload1 X dX12_pass_0 ?_
  refine zr_iload2 X dX12_pass_1 ?_
  refine zr_callV1 (rm9 := zrm_X9_line) X hnt zm_X12_94 (by decide) (by decide) (by decide) (Nat.le_of_ble_eq_true rfl) dX12_pass_2 ?_
  refine zp1_X9_line hS (by omega) ?_
  refine zr_iconst (v := (0 : Int32)) X dX12_pass_5 (by decide) ?_
  refine zr_callV1 (rm9 := zrm_X10_take) X hnt zm_X12_98 (by decide) (by decide) (by decide) (Nat.le_of_ble_eq_true rfl) dX12_pass_6 ?_
  refine zp_X10_take (w := (sL S g 1)) (k := 0) (hM.2.2.2.2.1 g (by omega)).2.2 ((hS.2.2.1 g (by omega)).2.2.2.2) (fun z => absurd (hA _ _ z) (by omega)) (by omega) (by have := hl9; omega) ?_
  intro J1 hg2 hl3; have hM4 : zSt J1 A n7 m7 (tL S g 1 ((sL S g 1).eraseIdx 0)) := zSt_L hA hM (show g < n7 by omega) (Or.inr ⟨rfl, rfl, rfl⟩) hg2 hl3
  refine zr_eq (x2 := (nI c9)) (by rw [hw]; exact pk_sub (a := c9 + 1) (b := 1) (by omega)) ?_
  refine zr_istore4 X (by decide) rfl dX12_pass_9 ?_
  refine zr_iload2 X dX12_pass_11 ?_
  refine zr_if_ne (tgt := 38) X dX12_pass_12 (by decide) (fun _ => ?_) (fun h => absurd h (by decide))
  refine zr_aload0 X dX12_pass_38 ?_
  refine zr_dupR X dX12_pass_39 ?_
  refine zr_getI X zf_X12_47 rfl dX12_pass_40 ?_
  refine zr_eq (x2 := (sX (tL S g 1 ((sL S g 1).eraseIdx 0)) 10)) (hM4.2.2.1 10 (by decide) (by decide)) ?_
  refine zr_iconst (v := (1 : Int32)) X dX12_pass_43 (by decide) ?_
  refine zr_iadd X dX12_pass_44 ?_
  refine zr_putI X zf_X12_47 rfl (Or.inl rfl) dX12_pass_45 ?_
  have hM_1 : zSt _ A n7 m7 (tX (tL S g 1 ((sL S g 1).eraseIdx 0)) 10 ((sX (tL S g 1 ((sL S g 1).eraseIdx 0)) 10) + (1 : Int32))) := zSt_X hA hM4 (i := 10) (v := ((sX (tL S g 1 ((sL S g 1).eraseIdx 0)) 10) + (1 : Int32))) (by decide) (by decide)
  refine zr_aload0 X dX12_pass_48 ?_
  refine zr_dupR X dX12_pass_49 ?_
  refine zr_getI X zf_X12_19 rfl dX12_pass_50 ?_
  refine zr_eq (x2 := (sX (tX (tL S g 1 ((sL S g 1).eraseIdx 0)) 10 ((sX (tL S g 1 ((sL S g 1).eraseIdx 0)) 10) + (1 : Int32))) 3)) (hM_1.2.2.1 3 (by decide) (by decide)) ?_
  refine zr_iconst (v := (1 : Int32)) X dX12_pass_53 (by decide) ?_
  refine zr_isub X dX12_pass_54 ?_
  refine zr_putI X zf_X12_19 rfl (Or.inl rfl) dX12_pass_55 ?_
  have hM_2 : zSt _ A n7 m7 (tX (tX (tL S g 1 ((sL S g 1).eraseIdx 0)) 10 ((sX (tL S g 1 ((sL S g 1).eraseIdx 0)) 10) + (1 : Int32))) 3 ((sX (tX (tL S g 1 ((sL S g 1).eraseIdx 0)) 10 ((sX (tL S g 1 ((sL S g 1).eraseIdx 0)) 10) + (1 : Int32))) 3) - (1 : Int32))) := zSt_X hA hM_1 (i := 3) (v := ((sX (tX (tL S g 1 ((sL S g 1).eraseIdx 0)) 10 ((sX (tL S g 1 ((sL S g 1).eraseIdx 0)) 10) + (1 : Int32))) 3) - (1 : Int32))) (by decide) (by decide)
  refine zr_iload4 X dX12_pass_58 ?_
  refine zr_nif_ge X (c9) (tgt := 64) (by omega) dX12_pass_60 (by decide) (fun _ => ?_) (fun h => absurd trivial h)
  refine zr_aload0 X dX12_pass_64 ?_
  refine zr_getD (r := A (2)) X zf_X12_36 rfl (by decide) (hS.2.1.2.2.1) dX12_pass_65 ?_
  refine zr_iload4 X dX12_pass_68 ?_
  refine zr_aaldD (k := 21) (n := c9) (r := A (40 + c9)) X rfl (show _ < 12 from (by first | decide | omega)) (hS.2.2.2.1 c9 (by omega)) dX12_pass_70 ?_
  refine zr_iload2 X dX12_pass_71 ?_
  refine zr_if_ne (tgt := 79) X dX12_pass_72 (by decide) (fun _ => ?_) (fun h => absurd h (by decide))
  refine zr_iconst (v := (0 : Int32)) X dX12_pass_79 (by decide) ?_
  refine zr_putI X zf_X12_73 rfl (Or.inr (by first | decide | assumption | (simp; done))) dX12_pass_80 ?_
  have hM_3 : zSt _ A n7 m7 (tC (tX (tX (tL S g 1 ((sL S g 1).eraseIdx 0)) 10 ((sX (tL S g 1 ((sL S g 1).eraseIdx 0)) 10) + (1 : Int32))) 3 ((sX (tX (tL S g 1 ((sL S g 1).eraseIdx 0)) 10 ((sX (tL S g 1 ((sL S g 1).eraseIdx 0)) 10) + (1 : Int32))) 3) - (1 : Int32))) c9 1 (0 : Int32)) := zSt_C hA hM_2 (show c9 < m7 by omega) (j := 1) (v := (0 : Int32)) (by decide)
  refine zr_aload0 X dX12_pass_83 ?_
  refine zr_getD (r := A (2)) X zf_X12_36 rfl (by decide) (hS.2.1.2.2.1) dX12_pass_84 ?_
  refine zr_iload4 X dX12_pass_87 ?_
  refine zr_aaldD (k := 21) (n := c9) (r := A (40 + c9)) X rfl (show _ < 12 from (by first | decide | omega)) (hS.2.2.2.1 c9 (by omega)) dX12_pass_89 ?_
  refine zr_dupR X dX12_pass_90 ?_
  refine zr_getI X zf_X12_80 rfl dX12_pass_91 ?_
  refine zr_eq (x2 := (sC (tC (tX (tX (tL S g 1 ((sL S g 1).eraseIdx 0)) 10 ((sX (tL S g 1 ((sL S g 1).eraseIdx 0)) 10) + (1 : Int32))) 3 ((sX (tX (tL S g 1 ((sL S g 1).eraseIdx 0)) 10 ((sX (tL S g 1 ((sL S g 1).eraseIdx 0)) 10) + (1 : Int32))) 3) - (1 : Int32))) c9 1 (0 : Int32)) c9 3)) (hM_3.2.2.2.2.2 c9 (by omega) 3 (by decide)) ?_
  refine zr_iconst (v := (1 : Int32)) X dX12_pass_94 (by decide) ?_
  refine zr_iadd X dX12_pass_95 ?_
  refine zr_putI X zf_X12_80 rfl (Or.inl rfl) dX12_pass_96 ?_
  have hM_4 : zSt _ A n7 m7 (tC (tC (tX (tX (tL S g 1 ((sL S g 1).eraseIdx 0)) 10 ((sX (tL S g 1 ((sL S g 1).eraseIdx 0)) 10) + (1 : Int32))) 3 ((sX (tX (tL S g 1 ((sL S g 1).eraseIdx 0)) 10 ((sX (tL S g 1 ((sL S g 1).eraseIdx 0)) 10) + (1 : Int32))) 3) - (1 : Int32))) c9 1 (0 : Int32)) c9 3 ((sC (tC (tX (tX (tL S g 1 ((sL S g 1).eraseIdx 0)) 10 ((sX (tL S g 1 ((sL S g 1).eraseIdx 0)) 10) + (1 : Int32))) 3 ((sX (tX (tL S g 1 ((sL S g 1).eraseIdx 0)) 10 ((sX (tL S g 1 ((sL S g 1).eraseIdx 0)) 10) + (1 : Int32))) 3) - (1 : Int32))) c9 1 (0 : Int32)) c9 3) + (1 : Int32))) := zSt_C hA hM_3 (show c9 < m7 by omega) (j := 3) (v := ((sC (tC (tX (tX (tL S g 1 ((sL S g 1).eraseIdx 0)) 10 ((sX (tL S g 1 ((sL S g 1).eraseIdx 0)) 10) + (1 : Int32))) 3 ((sX (tX (tL S g 1 ((sL S g 1).eraseIdx 0)) 10 ((sX (tL S g 1 ((sL S g 1).eraseIdx 0)) 10) + (1 : Int32))) 3) - (1 : Int32))) c9 1 (0 : Int32)) c9 3) + (1 : Int32))) (by decide)
  refine zr_iload3 X dX12_pass_99 ?_
  refine zr_if_eq (tgt := 123) X dX12_pass_100 (by decide) (fun _ => ?_) (fun h => absurd h (by decide))
  refine zr_vret X (by decide) (by decide) dX12_pass_123 ?_
  refine k1 _ (by repeat (first | exact zgA.rf | assumption | refine zgA.put ?_ (by unfold zvd; omega) | refine zgA.two ?_ (by assumption) (by unfold zvd; omega) (by unfold zvd; omega) | refine zgA.tr ?_ (by assumption))) ?_
  refine cast (congrArg (zSt _ A n7 m7) ?_) hM_4
  rw [qGoes, hw, qGone, if_neg (by decide), if_neg (by omega)]
  simp only [Nat.add_sub_cancel, qPassed]; first | rfl | (simp [tC, tX, tL, sX, sC, zu2, va_up]; done)
theorem zq10_X12_pass {l : Launch} {D : va_G} {b0 : Nat} {tA : Nat → ClassId} {sa sv : Nat → Nat} {K : zKt} {I : zI} {Qp : zI → Option AV → Prop} {Xp : String → zI → Prop} {A : Nat → Nat} {n7 m7 g : Nat} {S : zS} (hS : zSh K A n7 m7) (hM : zSt I A n7 m7 S) (hg : g < n7) (hl9 : (sL S g 1).length ≤ 10) (hl : 0 < (sL S g 1).length) (hw : ∀ y ∈ sL S g 1, y ≤ m7) (k1 : ∀ J : zI, zgA I J A n7 m7 → zSt J A n7 m7 (qGoes S g 1) → Qp J none) :
    zC l D b0 tA sa sv K yX12_pass (.code yX12_pass cX12_pass 5 none) zrm_X12_pass [vr (A (0)) 17, vr (A (4 + 5 * g)) 14, vi ((1 : Int32)), vi ((0 : Int32))] I Qp Xp := by
  rcases h : (sL S g 1).getD 0 0 with _ | c
  · exact zp100_X12_pass hS hM hg hl9 hl h k1
  · exact zp101_X12_pass hS hM hg hl9 hl h (by have := zgd_m hw 0; omega) k1
abbrev zrm_X12_serve : Room := { frames := 2, cells := 0, slots := 0, locals := 47 }
set_option maxRecDepth 20000 in
theorem zlP_X12_serve {l : Launch} {D : va_G} {b0 : Nat} {tA : Nat → ClassId} {sa sv : Nat → Nat} {K : zKt} {I : zI} {Qp : zI → Option AV → Prop} {Xp : String → zI → Prop} {p : Program} {e : Env} {s : State} {m : MethodId} {args : Array Value} {below : List Frame} {meth : Method} {c : Code} {A : Nat → Nat} {n7 m7 g f : Nat} {S : zS}
    (X : zX p l e zrm_X12_serve s m args below meth c RX12 cX12_serve 6 none D b0 tA sa sv) (hnt : ∀ x ∈ c.exceptionTable.toList, False) (hS : zSh K A n7 m7) (hM : zSt I A n7 m7 S) (hK : (sX S 6 = 0 ∨ sX S 6 = 1) ∧ (sX S 7 = 0 ∨ sX S 7 = 1) ∧ (sX S 8 = 0 ∨ sX S 8 = 1)) (hp : zPanB S = true) (hg : g < n7) (hf : sX S 1 = nI f) (hf4 : f ≤ 4) (hw : ∀ y ∈ sL S g 1, y ≤ m7) (hl : (sL S g 1).length ≤ 10) (k1 : ∀ J : zI, zgA I J A n7 m7 → zSt J A n7 m7 (qFlee S g f) → Qp J none) :
    ∀ (n : Nat) (i : Nat) (J : zI) (S9 : zS), i ≤ f → zgA I J A n7 m7 → zSt J A n7 m7 S9 → sX S9 1 = nI f → (∀ y ∈ sL S9 g 1, y ≤ m7) → (sL S9 g 1).length ≤ 10 → qFlee S9 g (f - i) = qFlee S g f → f + 1 - i < n → zG p l e zrm_X12_serve s m args below meth c 6 D b0 tA sa 0 0 (zQ below D b0 tA sa K args s zrm_X12_serve Qp Xp) K 9 [some (vr (A (0)) 17), some (vr (A (4 + 5 * g)) 14), some (vi ((nI i))), none, none, none] [] J := by
  intro n
  induction n with
  | zero => intro i J S9 i0 i1 i2 i3 i4 i7 i5 i6; exact absurd i6 (Nat.not_lt_zero _)
  | succ n ih =>
    intro i J S9 i0 i1 i2 i3 i4 i7 i5 i6
    have hA := hS.1
    have hn6 := hM.1.1
    have hm12 := hM.1.2
    refine zr_iload2 X dX12_serve_9 ?_
    refine zr_aload0 X dX12_serve_10 ?_
    refine zr_getI X zf_X12_13 rfl dX12_serve_11 ?_
    refine zr_eq (x2 := (sX S9 1)) (i2.2.2.1 1 (by decide) (by decide)) ?_
    refine zr_eq (x2 := (nI f)) (i3) ?_
    refine zr_nicmp_ge X (i) (f) (tgt := 50) (by omega) (by omega) dX12_serve_14 (by decide) (fun h1 => ?_) (fun h1 => ?_)
    · skip
      refine zr_vret X (by decide) (by decide) dX12_serve_50 ?_
      refine k1 J i1 ?_
      rw [← i5]
      have e9 : qFlee S9 g (f - i) = S9 := by first | (rw [show f - i = 0 by omega]; rfl) | (obtain ⟨m9, hm9⟩ : ∃ m9, f - i = m9 + 1 := ⟨f - i - 1, by omega⟩; rw [hm9, qFlee, if_pos (List.length_eq_zero_iff.mp (by omega))])
      rw [e9]; exact i2
    · skip
      refine zr_aload1 X dX12_serve_17 ?_
      refine zr_getD (r := A (7 + 5 * g)) X zf_X12_104 rfl (by decide) ((hS.2.2.1 g (by omega)).2.2.1) dX12_serve_18 ?_
      refine zr_getI X zf_X12_108 rfl dX12_serve_21 ?_
      refine zr_eq (x2 := (nI ((sL S9 g 1).length))) ((i2.2.2.2.2.1 g (by omega)).2.2.1) ?_
      refine zr_nif_le X (((sL S9 g 1).length)) (tgt := 50) (by omega) dX12_serve_24 (by decide) (fun h2 => ?_) (fun h2 => ?_)
      · skip
        refine zr_vret X (by decide) (by decide) dX12_serve_50 ?_
        refine k1 J i1 ?_
        rw [← i5]
        have e9 : qFlee S9 g (f - i) = S9 := by first | (rw [show f - i = 0 by omega]; rfl) | (obtain ⟨m9, hm9⟩ : ∃ m9, f - i = m9 + 1 := ⟨f - i - 1, by omega⟩; rw [hm9, qFlee, if_pos (List.length_eq_zero_iff.mp (by omega))])
        rw [e9]; exact i2
      · skip
        refine zr_aload0 X dX12_serve_27 ?_
        refine zr_aload1 X dX12_serve_28 ?_
        refine zr_iconst (v := (1 : Int32)) X dX12_serve_29 (by decide) ?_
        refine zr_iconst (v := (0 : Int32)) X dX12_serve_30 (by decide) ?_
        refine zr_callV3 (rm9 := zrm_X12_pass) X hnt zm_X12_109 (by decide) (by decide) (by decide) (Nat.le_of_ble_eq_true rfl) dX12_serve_31 ?_
        refine zq10_X12_pass (g := g) hS i2 (by omega) (i7) (by omega) (i4) ?_
        intro J5 hg6 hM7
        refine zr_aload0 X dX12_serve_34 ?_
        refine zr_dupR X dX12_serve_35 ?_
        refine zr_getI X zf_X12_59 rfl dX12_serve_36 ?_
        refine zr_eq (x2 := (sX (qGoes S9 g 1) 14)) (hM7.2.2.1 14 (by decide) (by decide)) ?_
        refine zr_iconst (v := (1 : Int32)) X dX12_serve_39 (by decide) ?_
        refine zr_iadd X dX12_serve_40 ?_
        refine zr_putI X zf_X12_59 rfl (Or.inl rfl) dX12_serve_41 ?_
        have hM_1 : zSt _ A n7 m7 (tX (qGoes S9 g 1) 14 ((sX (qGoes S9 g 1) 14) + (1 : Int32))) := zSt_X hA hM7 (i := 14) (v := ((sX (qGoes S9 g 1) 14) + (1 : Int32))) (by decide) (by decide)
        refine zr_iinc2 (v := (nI (i + 1))) X (show nI (i) + Int32.ofInt 1 = nI (i + 1) from nI_1 (i)) (by decide) rfl dX12_serve_44 ?_
        refine zr_goto (tgt := 9) X dX12_serve_47 (by decide) ?_
        refine ih (i + 1) _ (tX (qGoes S9 g 1) 14 ((sX (qGoes S9 g 1) 14) + (1 : Int32))) (by omega) (by repeat (first | exact zgA.rf | assumption | refine zgA.put ?_ (by unfold zvd; omega) | refine zgA.two ?_ (by assumption) (by unfold zvd; omega) (by unfold zvd; omega) | refine zgA.tr ?_ (by assumption))) hM_1 ?_ ?_ ?_ ?_ (by omega)
        · show sX (tX (qGoes S9 g 1) 14 (sX (qGoes S9 g 1) 14 + 1)) 1 = nI f
          rw [tX_X, if_neg (by decide)]; exact (qGone_X (by decide)).trans i3
        · show ∀ y ∈ sL (qGoes S9 g 1) g 1, y ≤ m7
          rw [qGoes_L, zu2_eq]; exact fun y hy => i4 y (List.mem_of_mem_eraseIdx hy)
        · show (sL (qGoes S9 g 1) g 1).length ≤ 10
          rw [qGoes_L, zu2_eq]; have := List.length_eraseIdx_le (sL S9 g 1) 0; omega
        · rw [← i5]; obtain ⟨m9, hm9⟩ : ∃ m9, f - i = m9 + 1 := ⟨f - i - 1, by omega⟩
          rw [hm9, qFlee, if_neg (fun z => absurd (show (sL S9 g 1).length = 0 by rw [z]; rfl) (by omega)), show f - (i + 1) = m9 by omega]; rfl
set_option maxRecDepth 20000 in
theorem zpP_X12_serve {l : Launch} {D : va_G} {b0 : Nat} {tA : Nat → ClassId} {sa sv : Nat → Nat} {K : zKt} {I : zI} {Qp : zI → Option AV → Prop} {Xp : String → zI → Prop} {A : Nat → Nat} {n7 m7 g f : Nat} {S : zS}
    (hS : zSh K A n7 m7) (hM : zSt I A n7 m7 S) (hK : (sX S 6 = 0 ∨ sX S 6 = 1) ∧ (sX S 7 = 0 ∨ sX S 7 = 1) ∧ (sX S 8 = 0 ∨ sX S 8 = 1)) (hp : zPanB S = true) (hg : g < n7) (hf : sX S 1 = nI f) (hf4 : f ≤ 4) (hw : ∀ y ∈ sL S g 1, y ≤ m7) (hl : (sL S g 1).length ≤ 10) (k1 : ∀ J : zI, zgA I J A n7 m7 → zSt J A n7 m7 (qFlee S g f) → Qp J none) :
    zC l D b0 tA sa sv K yX12_serve (.code yX12_serve cX12_serve 6 none) zrm_X12_serve [vr (A (0)) 17, vr (A (4 + 5 * g)) 14] I Qp Xp := by
  have hA := hS.1
  have hn6 := hM.1.1
  have hm12 := hM.1.2
  refine zC_of (by decide +kernel) (Nat.le_of_ble_eq_true rfl) ?_
  intro p e s m args below meth c X hnt
  have X : zX p l e zrm_X12_serve s m args below meth c RX12 cX12_serve 6 none D b0 tA sa sv := X
  refine zr_lv (lv2 := [some (vr (A (0)) 17), some (vr (A (4 + 5 * g)) 14), none, none, none, none]) rfl ?_
  refine zr_aload0 X dX12_serve_0 ?_
  refine zr_callV0 (rm9 := zrm_X12_isPanic) X hnt zm_X12_87 (by decide) (by decide) (by decide) (Nat.le_of_ble_eq_true rfl) dX12_serve_1 ?_
  refine zp_X12_isPanic hS hM hK (fun _ => ?_) (fun h => absurd hp h)
  refine zr_if_eq (tgt := 51) X dX12_serve_4 (by decide) (fun h => absurd h (by decide)) (fun _ => ?_)
  refine zr_iconst (v := (0 : Int32)) X dX12_serve_7 (by decide) ?_
  refine zr_istore2 X (by decide) rfl dX12_serve_8 ?_
  exact zlP_X12_serve X hnt hS hM hK hp hg hf hf4 hw hl k1 (f + 2) 0 I S (by omega) zgA.rf hM hf hw hl rfl (by omega)
theorem zlessM {T : zS} {g : Nat} (h : sG T g 1 - 1 = 0) : tG (tG T g 1 (sG T g 1 - 1)) g 2 0 = qLess T g := by
  rw [qLess, if_pos h, h]
theorem zlessN {T : zS} {g : Nat} (h : ¬ sG T g 1 - 1 = 0) : tG T g 1 (sG T g 1 - 1) = qLess T g := by
  rw [qLess, if_neg h]
set_option maxRecDepth 20000 in
theorem zpO0_X12_serve {l : Launch} {D : va_G} {b0 : Nat} {tA : Nat → ClassId} {sa sv : Nat → Nat} {K : zKt} {I : zI} {Qp : zI → Option AV → Prop} {Xp : String → zI → Prop} {A : Nat → Nat} {n7 m7 g : Nat} {S : zS}
    (hS : zSh K A n7 m7) (hM : zSt I A n7 m7 S) (hK : (sX S 6 = 0 ∨ sX S 6 = 1) ∧ (sX S 7 = 0 ∨ sX S 7 = 1) ∧ (sX S 8 = 0 ∨ sX S 8 = 1)) (hp : ¬ zPanB S = true) (hg : g < n7) (hl9 : (sL S g 0).length ≤ 10) (hw : ∀ y ∈ (sL S g 0), y ≤ m7) (k0 : ¬ sG S g 1 ≤ 0) (k2 : sG S g 2 = 1) (k3 : sG S g 3 = 0 ∨ (sG S g 3 = 1 ∧ (sL S g 0) ≠ [])) (k1 : ∀ J : zI, zgA I J A n7 m7 → zSt J A n7 m7 (qPass S g) → Qp J none) :
    zC l D b0 tA sa sv K yX12_serve (.code yX12_serve cX12_serve 6 none) zrm_X12_serve [vr (A (0)) 17, vr (A (4 + 5 * g)) 14] I Qp Xp := by
  have hA := hS.1
  have hn6 := hM.1.1
  have hm12 := hM.1.2
  have hz9 := zgd_m hw 0
  refine zC_of (by decide +kernel) (Nat.le_of_ble_eq_true rfl) ?_
  intro p e s m args below meth c X hnt
  have X : zX p l e zrm_X12_serve s m args below meth c RX12 cX12_serve 6 none D b0 tA sa sv := X
  refine zr_lv (lv2 := [some (vr (A (0)) 17), some (vr (A (4 + 5 * g)) 14), none, none, none, none]) rfl ?_
  refine zr_aload0 X dX12_serve_0 ?_
  refine zr_callV0 (rm9 := zrm_X12_isPanic) X hnt zm_X12_87 (by decide) (by decide) (by decide) (Nat.le_of_ble_eq_true rfl) dX12_serve_1 ?_
  refine zp_X12_isPanic hS hM hK (fun h => absurd h hp) (fun _ => ?_)
  refine zr_if_eq (tgt := 51) X dX12_serve_4 (by decide) (fun _ => ?_) (fun h => absurd h (by decide))
  refine zr_aload1 X dX12_serve_51 ?_
  refine zr_getI X zf_X12_113 rfl dX12_serve_52 ?_
  refine zr_eq (x2 := (sG S g 1)) ((hM.2.2.2.2.1 g (by omega)).1 1 (by decide)) ?_
  refine zr_if_le (tgt := 161) X dX12_serve_55 (by decide) (fun h1 => ?_) (fun h1 => ?_)
  · exact absurd h1 k0
  · skip
    refine zr_aload1 X dX12_serve_58 ?_
    refine zr_aload1 X dX12_serve_59 ?_
    refine zr_getI X zf_X12_116 rfl dX12_serve_60 ?_
    refine zr_eq (x2 := ((sG S g 2) - 1)) ((hM.2.2.2.2.1 g (by omega)).1 2 (by decide)) ?_
    refine zr_eq (x2 := (0 : Int32)) (by rw [k2]; rfl) ?_
    refine zr_callV1 (rm9 := zrm_X9_line) X hnt zm_X12_94 (by decide) (by decide) (by decide) (Nat.le_of_ble_eq_true rfl) dX12_serve_63 ?_
    refine zp0_X9_line hS (by omega) ?_
    refine zr_astore2 X (by decide) rfl dX12_serve_66 ?_
    refine zr_aload1 X dX12_serve_67 ?_
    refine zr_getZ X zf_X12_119 rfl rfl (by decide) dX12_serve_68 (fun hz2 => ?_)
    refine zr_eq (x2 := (sG S g 3)) ((hM.2.2.2.2.1 g (by omega)).1 3 (by decide)) ?_
    have hz2 : (sG S g 3) = 0 ∨ (sG S g 3) = 1 := hz2.imp (fun h => Eq.trans (Eq.symm ((hM.2.2.2.2.1 g (by omega)).1 3 (by decide))) h) (fun h => Eq.trans (Eq.symm ((hM.2.2.2.2.1 g (by omega)).1 3 (by decide))) h)
    refine zr_if_eq (tgt := 92) X dX12_serve_71 (by decide) (fun h3 => ?_) (fun h3 => ?_)
    · skip
      refine zr_aload2 X dX12_serve_92 ?_
      refine zr_getI X zf_X12_108 rfl dX12_serve_93 ?_
      refine zr_eq (x2 := (nI ((sL S g 0).length))) ((hM.2.2.2.2.1 g (by omega)).2.1.1) ?_
      refine zr_nif_le X (((sL S g 0).length)) (tgt := 138) (by omega) dX12_serve_96 (by decide) (fun h4 => ?_) (fun h4 => ?_)
      · skip
        refine zr_aload1 X dX12_serve_138 ?_
        refine zr_dupR X dX12_serve_139 ?_
        refine zr_getI X zf_X12_113 rfl dX12_serve_140 ?_
        refine zr_eq (x2 := (sG S g 1)) ((hM.2.2.2.2.1 g (by omega)).1 1 (by decide)) ?_
        refine zr_iconst (v := (1 : Int32)) X dX12_serve_143 (by decide) ?_
        refine zr_isub X dX12_serve_144 ?_
        refine zr_putI X zf_X12_113 rfl (Or.inl rfl) dX12_serve_145 ?_
        have hM_1 : zSt _ A n7 m7 (tG S g 1 ((sG S g 1) - (1 : Int32))) := zSt_G hA hM (show g < n7 by omega) (j := 1) (v := ((sG S g 1) - (1 : Int32))) (x := ((sG S g 1) - (1 : Int32))) (by decide) (by first | rfl | decide | exact (zside _).symm | exact (zside6 _).symm)
        refine zr_aload1 X dX12_serve_148 ?_
        refine zr_getI X zf_X12_113 rfl dX12_serve_149 ?_
        refine zr_eq (x2 := ((sG S g 1) - (1 : Int32))) (zput_eq) ?_
        refine zr_if_ne (tgt := 160) X dX12_serve_152 (by decide) (fun h5 => ?_) (fun h5 => ?_)
        · skip
          refine zr_vret X (by decide) (by decide) dX12_serve_160 ?_
          refine k1 _ (by repeat (first | exact zgA.rf | assumption | refine zgA.put ?_ (by unfold zvd; omega) | refine zgA.two ?_ (by assumption) (by unfold zvd; omega) (by unfold zvd; omega) | refine zgA.tr ?_ (by assumption))) ?_
          have e9 : qSide S g = 0 := by simp [qSide, k2]
          refine cast (congrArg (zSt _ A n7 m7) ?_) hM_1
          refine Eq.trans (zlessN h5) ?_
          rw [qPass, if_neg (fun z => absurd (h3.symm.trans z) (by decide)), e9, if_neg (fun z => absurd (List.length_pos_iff.mpr z.1) (by omega))]
        · skip
          refine zr_aload1 X dX12_serve_155 ?_
          refine zr_iconst (v := (-1 : Int32)) X dX12_serve_156 (by decide) ?_
          refine zr_putI X zf_X12_116 rfl (Or.inl rfl) dX12_serve_157 ?_
          have hM_2 : zSt _ A n7 m7 (tG (tG S g 1 ((sG S g 1) - (1 : Int32))) g 2 (0 : Int32)) := zSt_G hA hM_1 (show g < n7 by omega) (j := 2) (v := (0 : Int32)) (x := (-1 : Int32)) (by decide) (by first | rfl | decide | exact (zside _).symm | exact (zside6 _).symm)
          refine zr_vret X (by decide) (by decide) dX12_serve_160 ?_
          refine k1 _ (by repeat (first | exact zgA.rf | assumption | refine zgA.put ?_ (by unfold zvd; omega) | refine zgA.two ?_ (by assumption) (by unfold zvd; omega) (by unfold zvd; omega) | refine zgA.tr ?_ (by assumption))) ?_
          have e9 : qSide S g = 0 := by simp [qSide, k2]
          refine cast (congrArg (zSt _ A n7 m7) ?_) hM_2
          refine Eq.trans (zlessM h5) ?_
          rw [qPass, if_neg (fun z => absurd (h3.symm.trans z) (by decide)), e9, if_neg (fun z => absurd (List.length_pos_iff.mpr z.1) (by omega))]
      · skip
        refine zr_aload2 X dX12_serve_99 ?_
        refine zr_getD (r := A (6 + 5 * g)) X zf_X12_122 rfl (by decide) ((hS.2.2.1 g (by omega)).2.2.2.1) dX12_serve_100 ?_
        refine zr_iconst (v := (0 : Int32)) X dX12_serve_103 (by decide) ?_
        refine zr_ialdN (n := 0) X rfl (show _ < 11 from (by first | decide | omega | assumption)) dX12_serve_104 ?_
        refine zr_eq (x2 := (nI ((sL S g 0).getD 0 0) - 1)) ((hM.2.2.2.2.1 g (by omega)).2.1.2 0 (by first | omega | assumption)) ?_
        refine zr_if_ge (tgt := 138) X dX12_serve_105 (by decide) (fun h6 => ?_) (fun h6 => ?_)
        · skip
          refine zr_aload1 X dX12_serve_138 ?_
          refine zr_dupR X dX12_serve_139 ?_
          refine zr_getI X zf_X12_113 rfl dX12_serve_140 ?_
          refine zr_eq (x2 := (sG S g 1)) ((hM.2.2.2.2.1 g (by omega)).1 1 (by decide)) ?_
          refine zr_iconst (v := (1 : Int32)) X dX12_serve_143 (by decide) ?_
          refine zr_isub X dX12_serve_144 ?_
          refine zr_putI X zf_X12_113 rfl (Or.inl rfl) dX12_serve_145 ?_
          have hM_3 : zSt _ A n7 m7 (tG S g 1 ((sG S g 1) - (1 : Int32))) := zSt_G hA hM (show g < n7 by omega) (j := 1) (v := ((sG S g 1) - (1 : Int32))) (x := ((sG S g 1) - (1 : Int32))) (by decide) (by first | rfl | decide | exact (zside _).symm | exact (zside6 _).symm)
          refine zr_aload1 X dX12_serve_148 ?_
          refine zr_getI X zf_X12_113 rfl dX12_serve_149 ?_
          refine zr_eq (x2 := ((sG S g 1) - (1 : Int32))) (zput_eq) ?_
          refine zr_if_ne (tgt := 160) X dX12_serve_152 (by decide) (fun h7 => ?_) (fun h7 => ?_)
          · skip
            refine zr_vret X (by decide) (by decide) dX12_serve_160 ?_
            refine k1 _ (by repeat (first | exact zgA.rf | assumption | refine zgA.put ?_ (by unfold zvd; omega) | refine zgA.two ?_ (by assumption) (by unfold zvd; omega) (by unfold zvd; omega) | refine zgA.tr ?_ (by assumption))) ?_
            have e9 : qSide S g = 0 := by simp [qSide, k2]
            refine cast (congrArg (zSt _ A n7 m7) ?_) hM_3
            refine Eq.trans (zlessN h7) ?_
            rw [qPass, if_neg (fun z => absurd (h3.symm.trans z) (by decide)), e9, if_neg (fun z => absurd z.2 ((zneg1 (by omega)).mp h6))]
          · skip
            refine zr_aload1 X dX12_serve_155 ?_
            refine zr_iconst (v := (-1 : Int32)) X dX12_serve_156 (by decide) ?_
            refine zr_putI X zf_X12_116 rfl (Or.inl rfl) dX12_serve_157 ?_
            have hM_4 : zSt _ A n7 m7 (tG (tG S g 1 ((sG S g 1) - (1 : Int32))) g 2 (0 : Int32)) := zSt_G hA hM_3 (show g < n7 by omega) (j := 2) (v := (0 : Int32)) (x := (-1 : Int32)) (by decide) (by first | rfl | decide | exact (zside _).symm | exact (zside6 _).symm)
            refine zr_vret X (by decide) (by decide) dX12_serve_160 ?_
            refine k1 _ (by repeat (first | exact zgA.rf | assumption | refine zgA.put ?_ (by unfold zvd; omega) | refine zgA.two ?_ (by assumption) (by unfold zvd; omega) (by unfold zvd; omega) | refine zgA.tr ?_ (by assumption))) ?_
            have e9 : qSide S g = 0 := by simp [qSide, k2]
            refine cast (congrArg (zSt _ A n7 m7) ?_) hM_4
            refine Eq.trans (zlessM h7) ?_
            rw [qPass, if_neg (fun z => absurd (h3.symm.trans z) (by decide)), e9, if_neg (fun z => absurd z.2 ((zneg1 (by omega)).mp h6))]
        · skip
          refine zr_aload0 X dX12_serve_108 ?_
          refine zr_aload1 X dX12_serve_109 ?_
          refine zr_aload1 X dX12_serve_110 ?_
          refine zr_getI X zf_X12_116 rfl dX12_serve_111 ?_
          refine zr_eq (x2 := ((sG S g 2) - 1)) ((hM.2.2.2.2.1 g (by omega)).1 2 (by decide)) ?_
          refine zr_eq (x2 := (0 : Int32)) (by rw [k2]; rfl) ?_
          refine zr_iconst (v := (1 : Int32)) X dX12_serve_114 (by decide) ?_
          refine zr_callV3 (rm9 := zrm_X12_pass) X hnt zm_X12_109 (by decide) (by decide) (by decide) (Nat.le_of_ble_eq_true rfl) dX12_serve_115 ?_
          refine zq01_X12_pass (g := g) hS hM (by omega) (hl9) (by first | omega | (rcases k3 with k3 | k3; (first | (exact absurd k3 (by assumption)) | exact absurd (show (0 : Int32) = 1 from k3.symm.trans (by assumption)) (by decide)); exact List.length_pos_iff.mpr k3.2)) (hw) ?_
          intro J1 hg2 hM3
          refine zr_aload0 X dX12_serve_118 ?_
          refine zr_dupR X dX12_serve_119 ?_
          refine zr_getI X zf_X12_50 rfl dX12_serve_120 ?_
          refine zr_eq (x2 := (sX (qGoes S g 0) 11)) (hM3.2.2.1 11 (by decide) (by decide)) ?_
          refine zr_iconst (v := (1 : Int32)) X dX12_serve_123 (by decide) ?_
          refine zr_iadd X dX12_serve_124 ?_
          refine zr_putI X zf_X12_50 rfl (Or.inl rfl) dX12_serve_125 ?_
          have hM_5 : zSt _ A n7 m7 (tX (qGoes S g 0) 11 ((sX (qGoes S g 0) 11) + (1 : Int32))) := zSt_X hA hM3 (i := 11) (v := ((sX (qGoes S g 0) 11) + (1 : Int32))) (by decide) (by decide)
          refine zr_aload1 X dX12_serve_128 ?_
          refine zr_dupR X dX12_serve_129 ?_
          refine zr_getI X zf_X12_125 rfl dX12_serve_130 ?_
          refine zr_eq (x2 := (sG (tX (qGoes S g 0) 11 ((sX (qGoes S g 0) 11) + (1 : Int32))) g 4)) ((hM_5.2.2.2.2.1 g (by omega)).1 4 (by decide)) ?_
          refine zr_iconst (v := (1 : Int32)) X dX12_serve_133 (by decide) ?_
          refine zr_iadd X dX12_serve_134 ?_
          refine zr_putI X zf_X12_125 rfl (Or.inl rfl) dX12_serve_135 ?_
          have hM_6 : zSt _ A n7 m7 (tG (tX (qGoes S g 0) 11 ((sX (qGoes S g 0) 11) + (1 : Int32))) g 4 ((sG (tX (qGoes S g 0) 11 ((sX (qGoes S g 0) 11) + (1 : Int32))) g 4) + (1 : Int32))) := zSt_G hA hM_5 (show g < n7 by omega) (j := 4) (v := ((sG (tX (qGoes S g 0) 11 ((sX (qGoes S g 0) 11) + (1 : Int32))) g 4) + (1 : Int32))) (x := ((sG (tX (qGoes S g 0) 11 ((sX (qGoes S g 0) 11) + (1 : Int32))) g 4) + (1 : Int32))) (by decide) (by first | rfl | decide | exact (zside _).symm | exact (zside6 _).symm)
          refine zr_aload1 X dX12_serve_138 ?_
          refine zr_dupR X dX12_serve_139 ?_
          refine zr_getI X zf_X12_113 rfl dX12_serve_140 ?_
          refine zr_eq (x2 := (sG (tG (tX (qGoes S g 0) 11 ((sX (qGoes S g 0) 11) + (1 : Int32))) g 4 ((sG (tX (qGoes S g 0) 11 ((sX (qGoes S g 0) 11) + (1 : Int32))) g 4) + (1 : Int32))) g 1)) ((hM_6.2.2.2.2.1 g (by omega)).1 1 (by decide)) ?_
          refine zr_iconst (v := (1 : Int32)) X dX12_serve_143 (by decide) ?_
          refine zr_isub X dX12_serve_144 ?_
          refine zr_putI X zf_X12_113 rfl (Or.inl rfl) dX12_serve_145 ?_
          have hM_7 : zSt _ A n7 m7 (tG (tG (tX (qGoes S g 0) 11 ((sX (qGoes S g 0) 11) + (1 : Int32))) g 4 ((sG (tX (qGoes S g 0) 11 ((sX (qGoes S g 0) 11) + (1 : Int32))) g 4) + (1 : Int32))) g 1 ((sG (tG (tX (qGoes S g 0) 11 ((sX (qGoes S g 0) 11) + (1 : Int32))) g 4 ((sG (tX (qGoes S g 0) 11 ((sX (qGoes S g 0) 11) + (1 : Int32))) g 4) + (1 : Int32))) g 1) - (1 : Int32))) := zSt_G hA hM_6 (show g < n7 by omega) (j := 1) (v := ((sG (tG (tX (qGoes S g 0) 11 ((sX (qGoes S g 0) 11) + (1 : Int32))) g 4 ((sG (tX (qGoes S g 0) 11 ((sX (qGoes S g 0) 11) + (1 : Int32))) g 4) + (1 : Int32))) g 1) - (1 : Int32))) (x := ((sG (tG (tX (qGoes S g 0) 11 ((sX (qGoes S g 0) 11) + (1 : Int32))) g 4 ((sG (tX (qGoes S g 0) 11 ((sX (qGoes S g 0) 11) + (1 : Int32))) g 4) + (1 : Int32))) g 1) - (1 : Int32))) (by decide) (by first | rfl | decide | exact (zside _).symm | exact (zside6 _).symm)
          refine zr_aload1 X dX12_serve_148 ?_
          refine zr_getI X zf_X12_113 rfl dX12_serve_149 ?_
          refine zr_eq (x2 := ((sG (tG (tX (qGoes S g 0) 11 ((sX (qGoes S g 0) 11) + (1 : Int32))) g 4 ((sG (tX (qGoes S g 0) 11 ((sX (qGoes S g 0) 11) + (1 : Int32))) g 4) + (1 : Int32))) g 1) - (1 : Int32))) (zput_eq) ?_
          refine zr_if_ne (tgt := 160) X dX12_serve_152 (by decide) (fun h8 => ?_) (fun h8 => ?_)
          · skip
            refine zr_vret X (by decide) (by decide) dX12_serve_160 ?_
            refine k1 _ (by repeat (first | exact zgA.rf | assumption | refine zgA.put ?_ (by unfold zvd; omega) | refine zgA.two ?_ (by assumption) (by unfold zvd; omega) (by unfold zvd; omega) | refine zgA.tr ?_ (by assumption))) ?_
            have e9 : qSide S g = 0 := by simp [qSide, k2]
            refine cast (congrArg (zSt _ A n7 m7) ?_) hM_7
            refine Eq.trans (zlessN h8) ?_
            rw [qPass, if_neg (fun z => absurd (h3.symm.trans z) (by decide)), e9, if_pos ⟨fun z => by rw [z] at h4; exact absurd h4 (by simp), Decidable.not_not.mp (fun z => h6 ((zneg1 (by omega)).mpr z))⟩]; rfl
          · skip
            refine zr_aload1 X dX12_serve_155 ?_
            refine zr_iconst (v := (-1 : Int32)) X dX12_serve_156 (by decide) ?_
            refine zr_putI X zf_X12_116 rfl (Or.inl rfl) dX12_serve_157 ?_
            have hM_8 : zSt _ A n7 m7 (tG (tG (tG (tX (qGoes S g 0) 11 ((sX (qGoes S g 0) 11) + (1 : Int32))) g 4 ((sG (tX (qGoes S g 0) 11 ((sX (qGoes S g 0) 11) + (1 : Int32))) g 4) + (1 : Int32))) g 1 ((sG (tG (tX (qGoes S g 0) 11 ((sX (qGoes S g 0) 11) + (1 : Int32))) g 4 ((sG (tX (qGoes S g 0) 11 ((sX (qGoes S g 0) 11) + (1 : Int32))) g 4) + (1 : Int32))) g 1) - (1 : Int32))) g 2 (0 : Int32)) := zSt_G hA hM_7 (show g < n7 by omega) (j := 2) (v := (0 : Int32)) (x := (-1 : Int32)) (by decide) (by first | rfl | decide | exact (zside _).symm | exact (zside6 _).symm)
            refine zr_vret X (by decide) (by decide) dX12_serve_160 ?_
            refine k1 _ (by repeat (first | exact zgA.rf | assumption | refine zgA.put ?_ (by unfold zvd; omega) | refine zgA.two ?_ (by assumption) (by unfold zvd; omega) (by unfold zvd; omega) | refine zgA.tr ?_ (by assumption))) ?_
            have e9 : qSide S g = 0 := by simp [qSide, k2]
            refine cast (congrArg (zSt _ A n7 m7) ?_) hM_8
            refine Eq.trans (zlessM h8) ?_
            rw [qPass, if_neg (fun z => absurd (h3.symm.trans z) (by decide)), e9, if_pos ⟨fun z => by rw [z] at h4; exact absurd h4 (by simp), Decidable.not_not.mp (fun z => h6 ((zneg1 (by omega)).mpr z))⟩]; rfl
    · skip
      refine zr_aload0 X dX12_serve_74 ?_
      refine zr_aload1 X dX12_serve_75 ?_
      refine zr_aload1 X dX12_serve_76 ?_
      refine zr_getI X zf_X12_116 rfl dX12_serve_77 ?_
      refine zr_eq (x2 := ((sG S g 2) - 1)) ((hM.2.2.2.2.1 g (by omega)).1 2 (by decide)) ?_
      refine zr_eq (x2 := (0 : Int32)) (by rw [k2]; rfl) ?_
      refine zr_iconst (v := (1 : Int32)) X dX12_serve_80 (by decide) ?_
      refine zr_callV3 (rm9 := zrm_X12_pass) X hnt zm_X12_109 (by decide) (by decide) (by decide) (Nat.le_of_ble_eq_true rfl) dX12_serve_81 ?_
      refine zq01_X12_pass (g := g) hS hM (by omega) (hl9) (by first | omega | (rcases k3 with k3 | k3; (first | (exact absurd k3 (by assumption)) | exact absurd (show (0 : Int32) = 1 from k3.symm.trans (by assumption)) (by decide)); exact List.length_pos_iff.mpr k3.2)) (hw) ?_
      intro J4 hg5 hM6
      refine zr_aload1 X dX12_serve_84 ?_
      refine zr_iconst (v := (0 : Int32)) X dX12_serve_85 (by decide) ?_
      refine zr_putI X zf_X12_119 rfl (Or.inr (by first | decide | assumption | (simp; done))) dX12_serve_86 ?_
      have hM_9 : zSt _ A n7 m7 (tG (qGoes S g 0) g 3 (0 : Int32)) := zSt_G hA hM6 (show g < n7 by omega) (j := 3) (v := (0 : Int32)) (x := (0 : Int32)) (by decide) (by first | rfl | decide | exact (zside _).symm | exact (zside6 _).symm)
      refine zr_goto (tgt := 138) X dX12_serve_89 (by decide) ?_
      refine zr_aload1 X dX12_serve_138 ?_
      refine zr_dupR X dX12_serve_139 ?_
      refine zr_getI X zf_X12_113 rfl dX12_serve_140 ?_
      refine zr_eq (x2 := (sG (tG (qGoes S g 0) g 3 (0 : Int32)) g 1)) ((hM_9.2.2.2.2.1 g (by omega)).1 1 (by decide)) ?_
      refine zr_iconst (v := (1 : Int32)) X dX12_serve_143 (by decide) ?_
      refine zr_isub X dX12_serve_144 ?_
      refine zr_putI X zf_X12_113 rfl (Or.inl rfl) dX12_serve_145 ?_
      have hM_10 : zSt _ A n7 m7 (tG (tG (qGoes S g 0) g 3 (0 : Int32)) g 1 ((sG (tG (qGoes S g 0) g 3 (0 : Int32)) g 1) - (1 : Int32))) := zSt_G hA hM_9 (show g < n7 by omega) (j := 1) (v := ((sG (tG (qGoes S g 0) g 3 (0 : Int32)) g 1) - (1 : Int32))) (x := ((sG (tG (qGoes S g 0) g 3 (0 : Int32)) g 1) - (1 : Int32))) (by decide) (by first | rfl | decide | exact (zside _).symm | exact (zside6 _).symm)
      refine zr_aload1 X dX12_serve_148 ?_
      refine zr_getI X zf_X12_113 rfl dX12_serve_149 ?_
      refine zr_eq (x2 := ((sG (tG (qGoes S g 0) g 3 (0 : Int32)) g 1) - (1 : Int32))) (zput_eq) ?_
      refine zr_if_ne (tgt := 160) X dX12_serve_152 (by decide) (fun h9 => ?_) (fun h9 => ?_)
      · skip
        refine zr_vret X (by decide) (by decide) dX12_serve_160 ?_
        refine k1 _ (by repeat (first | exact zgA.rf | assumption | refine zgA.put ?_ (by unfold zvd; omega) | refine zgA.two ?_ (by assumption) (by unfold zvd; omega) (by unfold zvd; omega) | refine zgA.tr ?_ (by assumption))) ?_
        have e9 : qSide S g = 0 := by simp [qSide, k2]
        refine cast (congrArg (zSt _ A n7 m7) ?_) hM_10
        refine Eq.trans (zlessN h9) ?_
        rw [qPass, if_pos ((by assumption : sG S g 3 = 0 ∨ sG S g 3 = 1).resolve_left h3), e9]
      · skip
        refine zr_aload1 X dX12_serve_155 ?_
        refine zr_iconst (v := (-1 : Int32)) X dX12_serve_156 (by decide) ?_
        refine zr_putI X zf_X12_116 rfl (Or.inl rfl) dX12_serve_157 ?_
        have hM_11 : zSt _ A n7 m7 (tG (tG (tG (qGoes S g 0) g 3 (0 : Int32)) g 1 ((sG (tG (qGoes S g 0) g 3 (0 : Int32)) g 1) - (1 : Int32))) g 2 (0 : Int32)) := zSt_G hA hM_10 (show g < n7 by omega) (j := 2) (v := (0 : Int32)) (x := (-1 : Int32)) (by decide) (by first | rfl | decide | exact (zside _).symm | exact (zside6 _).symm)
        refine zr_vret X (by decide) (by decide) dX12_serve_160 ?_
        refine k1 _ (by repeat (first | exact zgA.rf | assumption | refine zgA.put ?_ (by unfold zvd; omega) | refine zgA.two ?_ (by assumption) (by unfold zvd; omega) (by unfold zvd; omega) | refine zgA.tr ?_ (by assumption))) ?_
        have e9 : qSide S g = 0 := by simp [qSide, k2]
        refine cast (congrArg (zSt _ A n7 m7) ?_) hM_11
        refine Eq.trans (zlessM h9) ?_
        rw [qPass, if_pos ((by assumption : sG S g 3 = 0 ∨ sG S g 3 = 1).resolve_left h3), e9]
set_option maxRecDepth 20000 in
theorem zpO1_X12_serve {l : Launch} {D : va_G} {b0 : Nat} {tA : Nat → ClassId} {sa sv : Nat → Nat} {K : zKt} {I : zI} {Qp : zI → Option AV → Prop} {Xp : String → zI → Prop} {A : Nat → Nat} {n7 m7 g : Nat} {S : zS}
    (hS : zSh K A n7 m7) (hM : zSt I A n7 m7 S) (hK : (sX S 6 = 0 ∨ sX S 6 = 1) ∧ (sX S 7 = 0 ∨ sX S 7 = 1) ∧ (sX S 8 = 0 ∨ sX S 8 = 1)) (hp : ¬ zPanB S = true) (hg : g < n7) (hl9 : (sL S g 1).length ≤ 10) (hw : ∀ y ∈ (sL S g 1), y ≤ m7) (k0 : ¬ sG S g 1 ≤ 0) (k2 : sG S g 2 = 2) (k3 : sG S g 3 = 0 ∨ (sG S g 3 = 1 ∧ (sL S g 1) ≠ [])) (k1 : ∀ J : zI, zgA I J A n7 m7 → zSt J A n7 m7 (qPass S g) → Qp J none) :
    zC l D b0 tA sa sv K yX12_serve (.code yX12_serve cX12_serve 6 none) zrm_X12_serve [vr (A (0)) 17, vr (A (4 + 5 * g)) 14] I Qp Xp := by
  have hA := hS.1
  have hn6 := hM.1.1
  have hm12 := hM.1.2
  have hz9 := zgd_m hw 0
  refine zC_of (by decide +kernel) (Nat.le_of_ble_eq_true rfl) ?_
  intro p e s m args below meth c X hnt
  have X : zX p l e zrm_X12_serve s m args below meth c RX12 cX12_serve 6 none D b0 tA sa sv := X
  refine zr_lv (lv2 := [some (vr (A (0)) 17), some (vr (A (4 + 5 * g)) 14), none, none, none, none]) rfl ?_
  refine zr_aload0 X dX12_serve_0 ?_
  refine zr_callV0 (rm9 := zrm_X12_isPanic) X hnt zm_X12_87 (by decide) (by decide) (by decide) (Nat.le_of_ble_eq_true rfl) dX12_serve_1 ?_
  refine zp_X12_isPanic hS hM hK (fun h => absurd h hp) (fun _ => ?_)
  refine zr_if_eq (tgt := 51) X dX12_serve_4 (by decide) (fun _ => ?_) (fun h => absurd h (by decide))
  refine zr_aload1 X dX12_serve_51 ?_
  refine zr_getI X zf_X12_113 rfl dX12_serve_52 ?_
  refine zr_eq (x2 := (sG S g 1)) ((hM.2.2.2.2.1 g (by omega)).1 1 (by decide)) ?_
  refine zr_if_le (tgt := 161) X dX12_serve_55 (by decide) (fun h1 => ?_) (fun h1 => ?_)
  · exact absurd h1 k0
  · skip
    refine zr_aload1 X dX12_serve_58 ?_
    refine zr_aload1 X dX12_serve_59 ?_
    refine zr_getI X zf_X12_116 rfl dX12_serve_60 ?_
    refine zr_eq (x2 := ((sG S g 2) - 1)) ((hM.2.2.2.2.1 g (by omega)).1 2 (by decide)) ?_
    refine zr_eq (x2 := (1 : Int32)) (by rw [k2]; rfl) ?_
    refine zr_callV1 (rm9 := zrm_X9_line) X hnt zm_X12_94 (by decide) (by decide) (by decide) (Nat.le_of_ble_eq_true rfl) dX12_serve_63 ?_
    refine zp1_X9_line hS (by omega) ?_
    refine zr_astore2 X (by decide) rfl dX12_serve_66 ?_
    refine zr_aload1 X dX12_serve_67 ?_
    refine zr_getZ X zf_X12_119 rfl rfl (by decide) dX12_serve_68 (fun hz2 => ?_)
    refine zr_eq (x2 := (sG S g 3)) ((hM.2.2.2.2.1 g (by omega)).1 3 (by decide)) ?_
    have hz2 : (sG S g 3) = 0 ∨ (sG S g 3) = 1 := hz2.imp (fun h => Eq.trans (Eq.symm ((hM.2.2.2.2.1 g (by omega)).1 3 (by decide))) h) (fun h => Eq.trans (Eq.symm ((hM.2.2.2.2.1 g (by omega)).1 3 (by decide))) h)
    refine zr_if_eq (tgt := 92) X dX12_serve_71 (by decide) (fun h3 => ?_) (fun h3 => ?_)
    · skip
      refine zr_aload2 X dX12_serve_92 ?_
      refine zr_getI X zf_X12_108 rfl dX12_serve_93 ?_
      refine zr_eq (x2 := (nI ((sL S g 1).length))) ((hM.2.2.2.2.1 g (by omega)).2.2.1) ?_
      refine zr_nif_le X (((sL S g 1).length)) (tgt := 138) (by omega) dX12_serve_96 (by decide) (fun h4 => ?_) (fun h4 => ?_)
      · skip
        refine zr_aload1 X dX12_serve_138 ?_
        refine zr_dupR X dX12_serve_139 ?_
        refine zr_getI X zf_X12_113 rfl dX12_serve_140 ?_
        refine zr_eq (x2 := (sG S g 1)) ((hM.2.2.2.2.1 g (by omega)).1 1 (by decide)) ?_
        refine zr_iconst (v := (1 : Int32)) X dX12_serve_143 (by decide) ?_
        refine zr_isub X dX12_serve_144 ?_
        refine zr_putI X zf_X12_113 rfl (Or.inl rfl) dX12_serve_145 ?_
        have hM_1 : zSt _ A n7 m7 (tG S g 1 ((sG S g 1) - (1 : Int32))) := zSt_G hA hM (show g < n7 by omega) (j := 1) (v := ((sG S g 1) - (1 : Int32))) (x := ((sG S g 1) - (1 : Int32))) (by decide) (by first | rfl | decide | exact (zside _).symm | exact (zside6 _).symm)
        refine zr_aload1 X dX12_serve_148 ?_
        refine zr_getI X zf_X12_113 rfl dX12_serve_149 ?_
        refine zr_eq (x2 := ((sG S g 1) - (1 : Int32))) (zput_eq) ?_
        refine zr_if_ne (tgt := 160) X dX12_serve_152 (by decide) (fun h5 => ?_) (fun h5 => ?_)
        · skip
          refine zr_vret X (by decide) (by decide) dX12_serve_160 ?_
          refine k1 _ (by repeat (first | exact zgA.rf | assumption | refine zgA.put ?_ (by unfold zvd; omega) | refine zgA.two ?_ (by assumption) (by unfold zvd; omega) (by unfold zvd; omega) | refine zgA.tr ?_ (by assumption))) ?_
          have e9 : qSide S g = 1 := by simp [qSide, k2]
          refine cast (congrArg (zSt _ A n7 m7) ?_) hM_1
          refine Eq.trans (zlessN h5) ?_
          rw [qPass, if_neg (fun z => absurd (h3.symm.trans z) (by decide)), e9, if_neg (fun z => absurd (List.length_pos_iff.mpr z.1) (by omega))]
        · skip
          refine zr_aload1 X dX12_serve_155 ?_
          refine zr_iconst (v := (-1 : Int32)) X dX12_serve_156 (by decide) ?_
          refine zr_putI X zf_X12_116 rfl (Or.inl rfl) dX12_serve_157 ?_
          have hM_2 : zSt _ A n7 m7 (tG (tG S g 1 ((sG S g 1) - (1 : Int32))) g 2 (0 : Int32)) := zSt_G hA hM_1 (show g < n7 by omega) (j := 2) (v := (0 : Int32)) (x := (-1 : Int32)) (by decide) (by first | rfl | decide | exact (zside _).symm | exact (zside6 _).symm)
          refine zr_vret X (by decide) (by decide) dX12_serve_160 ?_
          refine k1 _ (by repeat (first | exact zgA.rf | assumption | refine zgA.put ?_ (by unfold zvd; omega) | refine zgA.two ?_ (by assumption) (by unfold zvd; omega) (by unfold zvd; omega) | refine zgA.tr ?_ (by assumption))) ?_
          have e9 : qSide S g = 1 := by simp [qSide, k2]
          refine cast (congrArg (zSt _ A n7 m7) ?_) hM_2
          refine Eq.trans (zlessM h5) ?_
          rw [qPass, if_neg (fun z => absurd (h3.symm.trans z) (by decide)), e9, if_neg (fun z => absurd (List.length_pos_iff.mpr z.1) (by omega))]
      · skip
        refine zr_aload2 X dX12_serve_99 ?_
        refine zr_getD (r := A (8 + 5 * g)) X zf_X12_122 rfl (by decide) ((hS.2.2.1 g (by omega)).2.2.2.2) dX12_serve_100 ?_
        refine zr_iconst (v := (0 : Int32)) X dX12_serve_103 (by decide) ?_
        refine zr_ialdN (n := 0) X rfl (show _ < 11 from (by first | decide | omega | assumption)) dX12_serve_104 ?_
        refine zr_eq (x2 := (nI ((sL S g 1).getD 0 0) - 1)) ((hM.2.2.2.2.1 g (by omega)).2.2.2 0 (by first | omega | assumption)) ?_
        refine zr_if_ge (tgt := 138) X dX12_serve_105 (by decide) (fun h6 => ?_) (fun h6 => ?_)
        · skip
          refine zr_aload1 X dX12_serve_138 ?_
          refine zr_dupR X dX12_serve_139 ?_
          refine zr_getI X zf_X12_113 rfl dX12_serve_140 ?_
          refine zr_eq (x2 := (sG S g 1)) ((hM.2.2.2.2.1 g (by omega)).1 1 (by decide)) ?_
          refine zr_iconst (v := (1 : Int32)) X dX12_serve_143 (by decide) ?_
          refine zr_isub X dX12_serve_144 ?_
          refine zr_putI X zf_X12_113 rfl (Or.inl rfl) dX12_serve_145 ?_
          have hM_3 : zSt _ A n7 m7 (tG S g 1 ((sG S g 1) - (1 : Int32))) := zSt_G hA hM (show g < n7 by omega) (j := 1) (v := ((sG S g 1) - (1 : Int32))) (x := ((sG S g 1) - (1 : Int32))) (by decide) (by first | rfl | decide | exact (zside _).symm | exact (zside6 _).symm)
          refine zr_aload1 X dX12_serve_148 ?_
          refine zr_getI X zf_X12_113 rfl dX12_serve_149 ?_
          refine zr_eq (x2 := ((sG S g 1) - (1 : Int32))) (zput_eq) ?_
          refine zr_if_ne (tgt := 160) X dX12_serve_152 (by decide) (fun h7 => ?_) (fun h7 => ?_)
          · skip
            refine zr_vret X (by decide) (by decide) dX12_serve_160 ?_
            refine k1 _ (by repeat (first | exact zgA.rf | assumption | refine zgA.put ?_ (by unfold zvd; omega) | refine zgA.two ?_ (by assumption) (by unfold zvd; omega) (by unfold zvd; omega) | refine zgA.tr ?_ (by assumption))) ?_
            have e9 : qSide S g = 1 := by simp [qSide, k2]
            refine cast (congrArg (zSt _ A n7 m7) ?_) hM_3
            refine Eq.trans (zlessN h7) ?_
            rw [qPass, if_neg (fun z => absurd (h3.symm.trans z) (by decide)), e9, if_neg (fun z => absurd z.2 ((zneg1 (by omega)).mp h6))]
          · skip
            refine zr_aload1 X dX12_serve_155 ?_
            refine zr_iconst (v := (-1 : Int32)) X dX12_serve_156 (by decide) ?_
            refine zr_putI X zf_X12_116 rfl (Or.inl rfl) dX12_serve_157 ?_
            have hM_4 : zSt _ A n7 m7 (tG (tG S g 1 ((sG S g 1) - (1 : Int32))) g 2 (0 : Int32)) := zSt_G hA hM_3 (show g < n7 by omega) (j := 2) (v := (0 : Int32)) (x := (-1 : Int32)) (by decide) (by first | rfl | decide | exact (zside _).symm | exact (zside6 _).symm)
            refine zr_vret X (by decide) (by decide) dX12_serve_160 ?_
            refine k1 _ (by repeat (first | exact zgA.rf | assumption | refine zgA.put ?_ (by unfold zvd; omega) | refine zgA.two ?_ (by assumption) (by unfold zvd; omega) (by unfold zvd; omega) | refine zgA.tr ?_ (by assumption))) ?_
            have e9 : qSide S g = 1 := by simp [qSide, k2]
            refine cast (congrArg (zSt _ A n7 m7) ?_) hM_4
            refine Eq.trans (zlessM h7) ?_
            rw [qPass, if_neg (fun z => absurd (h3.symm.trans z) (by decide)), e9, if_neg (fun z => absurd z.2 ((zneg1 (by omega)).mp h6))]
        · skip
          refine zr_aload0 X dX12_serve_108 ?_
          refine zr_aload1 X dX12_serve_109 ?_
          refine zr_aload1 X dX12_serve_110 ?_
          refine zr_getI X zf_X12_116 rfl dX12_serve_111 ?_
          refine zr_eq (x2 := ((sG S g 2) - 1)) ((hM.2.2.2.2.1 g (by omega)).1 2 (by decide)) ?_
          refine zr_eq (x2 := (1 : Int32)) (by rw [k2]; rfl) ?_
          refine zr_iconst (v := (1 : Int32)) X dX12_serve_114 (by decide) ?_
          refine zr_callV3 (rm9 := zrm_X12_pass) X hnt zm_X12_109 (by decide) (by decide) (by decide) (Nat.le_of_ble_eq_true rfl) dX12_serve_115 ?_
          refine zq11_X12_pass (g := g) hS hM (by omega) (hl9) (by first | omega | (rcases k3 with k3 | k3; (first | (exact absurd k3 (by assumption)) | exact absurd (show (0 : Int32) = 1 from k3.symm.trans (by assumption)) (by decide)); exact List.length_pos_iff.mpr k3.2)) (hw) ?_
          intro J1 hg2 hM3
          refine zr_aload0 X dX12_serve_118 ?_
          refine zr_dupR X dX12_serve_119 ?_
          refine zr_getI X zf_X12_50 rfl dX12_serve_120 ?_
          refine zr_eq (x2 := (sX (qGoes S g 1) 11)) (hM3.2.2.1 11 (by decide) (by decide)) ?_
          refine zr_iconst (v := (1 : Int32)) X dX12_serve_123 (by decide) ?_
          refine zr_iadd X dX12_serve_124 ?_
          refine zr_putI X zf_X12_50 rfl (Or.inl rfl) dX12_serve_125 ?_
          have hM_5 : zSt _ A n7 m7 (tX (qGoes S g 1) 11 ((sX (qGoes S g 1) 11) + (1 : Int32))) := zSt_X hA hM3 (i := 11) (v := ((sX (qGoes S g 1) 11) + (1 : Int32))) (by decide) (by decide)
          refine zr_aload1 X dX12_serve_128 ?_
          refine zr_dupR X dX12_serve_129 ?_
          refine zr_getI X zf_X12_125 rfl dX12_serve_130 ?_
          refine zr_eq (x2 := (sG (tX (qGoes S g 1) 11 ((sX (qGoes S g 1) 11) + (1 : Int32))) g 4)) ((hM_5.2.2.2.2.1 g (by omega)).1 4 (by decide)) ?_
          refine zr_iconst (v := (1 : Int32)) X dX12_serve_133 (by decide) ?_
          refine zr_iadd X dX12_serve_134 ?_
          refine zr_putI X zf_X12_125 rfl (Or.inl rfl) dX12_serve_135 ?_
          have hM_6 : zSt _ A n7 m7 (tG (tX (qGoes S g 1) 11 ((sX (qGoes S g 1) 11) + (1 : Int32))) g 4 ((sG (tX (qGoes S g 1) 11 ((sX (qGoes S g 1) 11) + (1 : Int32))) g 4) + (1 : Int32))) := zSt_G hA hM_5 (show g < n7 by omega) (j := 4) (v := ((sG (tX (qGoes S g 1) 11 ((sX (qGoes S g 1) 11) + (1 : Int32))) g 4) + (1 : Int32))) (x := ((sG (tX (qGoes S g 1) 11 ((sX (qGoes S g 1) 11) + (1 : Int32))) g 4) + (1 : Int32))) (by decide) (by first | rfl | decide | exact (zside _).symm | exact (zside6 _).symm)
          refine zr_aload1 X dX12_serve_138 ?_
          refine zr_dupR X dX12_serve_139 ?_
          refine zr_getI X zf_X12_113 rfl dX12_serve_140 ?_
          refine zr_eq (x2 := (sG (tG (tX (qGoes S g 1) 11 ((sX (qGoes S g 1) 11) + (1 : Int32))) g 4 ((sG (tX (qGoes S g 1) 11 ((sX (qGoes S g 1) 11) + (1 : Int32))) g 4) + (1 : Int32))) g 1)) ((hM_6.2.2.2.2.1 g (by omega)).1 1 (by decide)) ?_
          refine zr_iconst (v := (1 : Int32)) X dX12_serve_143 (by decide) ?_
          refine zr_isub X dX12_serve_144 ?_
          refine zr_putI X zf_X12_113 rfl (Or.inl rfl) dX12_serve_145 ?_
          have hM_7 : zSt _ A n7 m7 (tG (tG (tX (qGoes S g 1) 11 ((sX (qGoes S g 1) 11) + (1 : Int32))) g 4 ((sG (tX (qGoes S g 1) 11 ((sX (qGoes S g 1) 11) + (1 : Int32))) g 4) + (1 : Int32))) g 1 ((sG (tG (tX (qGoes S g 1) 11 ((sX (qGoes S g 1) 11) + (1 : Int32))) g 4 ((sG (tX (qGoes S g 1) 11 ((sX (qGoes S g 1) 11) + (1 : Int32))) g 4) + (1 : Int32))) g 1) - (1 : Int32))) := zSt_G hA hM_6 (show g < n7 by omega) (j := 1) (v := ((sG (tG (tX (qGoes S g 1) 11 ((sX (qGoes S g 1) 11) + (1 : Int32))) g 4 ((sG (tX (qGoes S g 1) 11 ((sX (qGoes S g 1) 11) + (1 : Int32))) g 4) + (1 : Int32))) g 1) - (1 : Int32))) (x := ((sG (tG (tX (qGoes S g 1) 11 ((sX (qGoes S g 1) 11) + (1 : Int32))) g 4 ((sG (tX (qGoes S g 1) 11 ((sX (qGoes S g 1) 11) + (1 : Int32))) g 4) + (1 : Int32))) g 1) - (1 : Int32))) (by decide) (by first | rfl | decide | exact (zside _).symm | exact (zside6 _).symm)
          refine zr_aload1 X dX12_serve_148 ?_
          refine zr_getI X zf_X12_113 rfl dX12_serve_149 ?_
          refine zr_eq (x2 := ((sG (tG (tX (qGoes S g 1) 11 ((sX (qGoes S g 1) 11) + (1 : Int32))) g 4 ((sG (tX (qGoes S g 1) 11 ((sX (qGoes S g 1) 11) + (1 : Int32))) g 4) + (1 : Int32))) g 1) - (1 : Int32))) (zput_eq) ?_
          refine zr_if_ne (tgt := 160) X dX12_serve_152 (by decide) (fun h8 => ?_) (fun h8 => ?_)
          · skip
            refine zr_vret X (by decide) (by decide) dX12_serve_160 ?_
            refine k1 _ (by repeat (first | exact zgA.rf | assumption | refine zgA.put ?_ (by unfold zvd; omega) | refine zgA.two ?_ (by assumption) (by unfold zvd; omega) (by unfold zvd; omega) | refine zgA.tr ?_ (by assumption))) ?_
            have e9 : qSide S g = 1 := by simp [qSide, k2]
            refine cast (congrArg (zSt _ A n7 m7) ?_) hM_7
            refine Eq.trans (zlessN h8) ?_
            rw [qPass, if_neg (fun z => absurd (h3.symm.trans z) (by decide)), e9, if_pos ⟨fun z => by rw [z] at h4; exact absurd h4 (by simp), Decidable.not_not.mp (fun z => h6 ((zneg1 (by omega)).mpr z))⟩]; rfl
          · skip
            refine zr_aload1 X dX12_serve_155 ?_
            refine zr_iconst (v := (-1 : Int32)) X dX12_serve_156 (by decide) ?_
            refine zr_putI X zf_X12_116 rfl (Or.inl rfl) dX12_serve_157 ?_
            have hM_8 : zSt _ A n7 m7 (tG (tG (tG (tX (qGoes S g 1) 11 ((sX (qGoes S g 1) 11) + (1 : Int32))) g 4 ((sG (tX (qGoes S g 1) 11 ((sX (qGoes S g 1) 11) + (1 : Int32))) g 4) + (1 : Int32))) g 1 ((sG (tG (tX (qGoes S g 1) 11 ((sX (qGoes S g 1) 11) + (1 : Int32))) g 4 ((sG (tX (qGoes S g 1) 11 ((sX (qGoes S g 1) 11) + (1 : Int32))) g 4) + (1 : Int32))) g 1) - (1 : Int32))) g 2 (0 : Int32)) := zSt_G hA hM_7 (show g < n7 by omega) (j := 2) (v := (0 : Int32)) (x := (-1 : Int32)) (by decide) (by first | rfl | decide | exact (zside _).symm | exact (zside6 _).symm)
            refine zr_vret X (by decide) (by decide) dX12_serve_160 ?_
            refine k1 _ (by repeat (first | exact zgA.rf | assumption | refine zgA.put ?_ (by unfold zvd; omega) | refine zgA.two ?_ (by assumption) (by unfold zvd; omega) (by unfold zvd; omega) | refine zgA.tr ?_ (by assumption))) ?_
            have e9 : qSide S g = 1 := by simp [qSide, k2]
            refine cast (congrArg (zSt _ A n7 m7) ?_) hM_8
            refine Eq.trans (zlessM h8) ?_
            rw [qPass, if_neg (fun z => absurd (h3.symm.trans z) (by decide)), e9, if_pos ⟨fun z => by rw [z] at h4; exact absurd h4 (by simp), Decidable.not_not.mp (fun z => h6 ((zneg1 (by omega)).mpr z))⟩]; rfl
    · skip
      refine zr_aload0 X dX12_serve_74 ?_
      refine zr_aload1 X dX12_serve_75 ?_
      refine zr_aload1 X dX12_serve_76 ?_
      refine zr_getI X zf_X12_116 rfl dX12_serve_77 ?_
      refine zr_eq (x2 := ((sG S g 2) - 1)) ((hM.2.2.2.2.1 g (by omega)).1 2 (by decide)) ?_
      refine zr_eq (x2 := (1 : Int32)) (by rw [k2]; rfl) ?_
      refine zr_iconst (v := (1 : Int32)) X dX12_serve_80 (by decide) ?_
      refine zr_callV3 (rm9 := zrm_X12_pass) X hnt zm_X12_109 (by decide) (by decide) (by decide) (Nat.le_of_ble_eq_true rfl) dX12_serve_81 ?_
      refine zq11_X12_pass (g := g) hS hM (by omega) (hl9) (by first | omega | (rcases k3 with k3 | k3; (first | (exact absurd k3 (by assumption)) | exact absurd (show (0 : Int32) = 1 from k3.symm.trans (by assumption)) (by decide)); exact List.length_pos_iff.mpr k3.2)) (hw) ?_
      intro J4 hg5 hM6
      refine zr_aload1 X dX12_serve_84 ?_
      refine zr_iconst (v := (0 : Int32)) X dX12_serve_85 (by decide) ?_
      refine zr_putI X zf_X12_119 rfl (Or.inr (by first | decide | assumption | (simp; done))) dX12_serve_86 ?_
      have hM_9 : zSt _ A n7 m7 (tG (qGoes S g 1) g 3 (0 : Int32)) := zSt_G hA hM6 (show g < n7 by omega) (j := 3) (v := (0 : Int32)) (x := (0 : Int32)) (by decide) (by first | rfl | decide | exact (zside _).symm | exact (zside6 _).symm)
      refine zr_goto (tgt := 138) X dX12_serve_89 (by decide) ?_
      refine zr_aload1 X dX12_serve_138 ?_
      refine zr_dupR X dX12_serve_139 ?_
      refine zr_getI X zf_X12_113 rfl dX12_serve_140 ?_
      refine zr_eq (x2 := (sG (tG (qGoes S g 1) g 3 (0 : Int32)) g 1)) ((hM_9.2.2.2.2.1 g (by omega)).1 1 (by decide)) ?_
      refine zr_iconst (v := (1 : Int32)) X dX12_serve_143 (by decide) ?_
      refine zr_isub X dX12_serve_144 ?_
      refine zr_putI X zf_X12_113 rfl (Or.inl rfl) dX12_serve_145 ?_
      have hM_10 : zSt _ A n7 m7 (tG (tG (qGoes S g 1) g 3 (0 : Int32)) g 1 ((sG (tG (qGoes S g 1) g 3 (0 : Int32)) g 1) - (1 : Int32))) := zSt_G hA hM_9 (show g < n7 by omega) (j := 1) (v := ((sG (tG (qGoes S g 1) g 3 (0 : Int32)) g 1) - (1 : Int32))) (x := ((sG (tG (qGoes S g 1) g 3 (0 : Int32)) g 1) - (1 : Int32))) (by decide) (by first | rfl | decide | exact (zside _).symm | exact (zside6 _).symm)
      refine zr_aload1 X dX12_serve_148 ?_
      refine zr_getI X zf_X12_113 rfl dX12_serve_149 ?_
      refine zr_eq (x2 := ((sG (tG (qGoes S g 1) g 3 (0 : Int32)) g 1) - (1 : Int32))) (zput_eq) ?_
      refine zr_if_ne (tgt := 160) X dX12_serve_152 (by decide) (fun h9 => ?_) (fun h9 => ?_)
      · skip
        refine zr_vret X (by decide) (by decide) dX12_serve_160 ?_
        refine k1 _ (by repeat (first | exact zgA.rf | assumption | refine zgA.put ?_ (by unfold zvd; omega) | refine zgA.two ?_ (by assumption) (by unfold zvd; omega) (by unfold zvd; omega) | refine zgA.tr ?_ (by assumption))) ?_
        have e9 : qSide S g = 1 := by simp [qSide, k2]
        refine cast (congrArg (zSt _ A n7 m7) ?_) hM_10
        refine Eq.trans (zlessN h9) ?_
        rw [qPass, if_pos ((by assumption : sG S g 3 = 0 ∨ sG S g 3 = 1).resolve_left h3), e9]
      · skip
        refine zr_aload1 X dX12_serve_155 ?_
        refine zr_iconst (v := (-1 : Int32)) X dX12_serve_156 (by decide) ?_
        refine zr_putI X zf_X12_116 rfl (Or.inl rfl) dX12_serve_157 ?_
        have hM_11 : zSt _ A n7 m7 (tG (tG (tG (qGoes S g 1) g 3 (0 : Int32)) g 1 ((sG (tG (qGoes S g 1) g 3 (0 : Int32)) g 1) - (1 : Int32))) g 2 (0 : Int32)) := zSt_G hA hM_10 (show g < n7 by omega) (j := 2) (v := (0 : Int32)) (x := (-1 : Int32)) (by decide) (by first | rfl | decide | exact (zside _).symm | exact (zside6 _).symm)
        refine zr_vret X (by decide) (by decide) dX12_serve_160 ?_
        refine k1 _ (by repeat (first | exact zgA.rf | assumption | refine zgA.put ?_ (by unfold zvd; omega) | refine zgA.two ?_ (by assumption) (by unfold zvd; omega) (by unfold zvd; omega) | refine zgA.tr ?_ (by assumption))) ?_
        have e9 : qSide S g = 1 := by simp [qSide, k2]
        refine cast (congrArg (zSt _ A n7 m7) ?_) hM_11
        refine Eq.trans (zlessM h9) ?_
        rw [qPass, if_pos ((by assumption : sG S g 3 = 0 ∨ sG S g 3 = 1).resolve_left h3), e9]
set_option maxRecDepth 20000 in
theorem zpC0_X12_serve {l : Launch} {D : va_G} {b0 : Nat} {tA : Nat → ClassId} {sa sv : Nat → Nat} {K : zKt} {I : zI} {Qp : zI → Option AV → Prop} {Xp : String → zI → Prop} {A : Nat → Nat} {n7 m7 g : Nat} {S : zS}
    (hS : zSh K A n7 m7) (hM : zSt I A n7 m7 S) (hK : (sX S 6 = 0 ∨ sX S 6 = 1) ∧ (sX S 7 = 0 ∨ sX S 7 = 1) ∧ (sX S 8 = 0 ∨ sX S 8 = 1)) (hp : ¬ zPanB S = true) (hg : g < n7) (hl9 : ∀ s, (sL S g s).length ≤ 10) (hw : ∀ y ∈ (sL S g 0), y ≤ m7) (hb : ∀ c : Nat, (sC S c 1 = 0 ∨ sC S c 1 = 1) ∧ (sC S c 2 = 0 ∨ sC S c 2 = 1)) (k0 : sG S g 1 ≤ 0) (k2 : qTurn S g = 0) (k1 : ∀ J : zI, zgA I J A n7 m7 → zSt J A n7 m7 (qOpen S g) → Qp J none) :
    zC l D b0 tA sa sv K yX12_serve (.code yX12_serve cX12_serve 6 none) zrm_X12_serve [vr (A (0)) 17, vr (A (4 + 5 * g)) 14] I Qp Xp := by
  have hA := hS.1
  have hn6 := hM.1.1
  have hm12 := hM.1.2
  have hl0 := hl9 0
  have hl1 := hl9 1
  refine zC_of (by decide +kernel) (Nat.le_of_ble_eq_true rfl) ?_
  intro p e s m args below meth c X hnt
  have X : zX p l e zrm_X12_serve s m args below meth c RX12 cX12_serve 6 none D b0 tA sa sv := X
  refine zr_lv (lv2 := [some (vr (A (0)) 17), some (vr (A (4 + 5 * g)) 14), none, none, none, none]) rfl ?_
  refine zr_aload0 X dX12_serve_0 ?_
  refine zr_callV0 (rm9 := zrm_X12_isPanic) X hnt zm_X12_87 (by decide) (by decide) (by decide) (Nat.le_of_ble_eq_true rfl) dX12_serve_1 ?_
  refine zp_X12_isPanic hS hM hK (fun h => absurd h hp) (fun _ => ?_)
  refine zr_if_eq (tgt := 51) X dX12_serve_4 (by decide) (fun _ => ?_) (fun h => absurd h (by decide))
  refine zr_aload1 X dX12_serve_51 ?_
  refine zr_getI X zf_X12_113 rfl dX12_serve_52 ?_
  refine zr_eq (x2 := (sG S g 1)) ((hM.2.2.2.2.1 g (by omega)).1 1 (by decide)) ?_
  refine zr_if_le (tgt := 161) X dX12_serve_55 (by decide) (fun h1 => ?_) (fun h1 => ?_)
  · skip
    refine zr_aload1 X dX12_serve_161 ?_
    refine zr_callV0 (rm9 := zrm_X9_next) X hnt zm_X12_128 (by decide) (by decide) (by decide) (Nat.le_of_ble_eq_true rfl) dX12_serve_162 ?_
    refine zp_X9_next hS hM (by omega) hl9 ?_; rw [k2]
    refine zr_istore2 X (by decide) rfl dX12_serve_165 ?_
    refine zr_aload1 X dX12_serve_166 ?_
    refine zr_iload2 X dX12_serve_167 ?_
    refine zr_callV1 (rm9 := zrm_X9_line) X hnt zm_X12_94 (by decide) (by decide) (by decide) (Nat.le_of_ble_eq_true rfl) dX12_serve_168 ?_
    refine zp0_X9_line hS (by omega) ?_
    refine zr_astore3 X (by decide) rfl dX12_serve_171 ?_
    refine zr_aload3 X dX12_serve_172 ?_
    refine zr_callV0 (rm9 := zrm_X10_firstCard) X hnt zm_X12_131 (by decide) (by decide) (by decide) (Nat.le_of_ble_eq_true rfl) dX12_serve_173 ?_
    refine zp_X10_firstCard (w := (sL S g 0)) (hM.2.2.2.2.1 g (by omega)).2.1 ((hS.2.2.1 g (by omega)).2.2.2.1) (fun z => absurd (hA _ _ z) (by omega)) (by have := hl9 0; omega) (fun y hy => Nat.le_trans (hw y hy) hm12) ?_
    intro kk2 hb3 hz4 hy5
    refine zr_istore4 X (by decide) rfl dX12_serve_176 ?_
    refine zr_iload4 X dX12_serve_178 ?_
    refine zr_aload3 X dX12_serve_180 ?_
    refine zr_getI X zf_X12_108 rfl dX12_serve_181 ?_
    refine zr_eq (x2 := (nI ((sL S g 0).length))) ((hM.2.2.2.2.1 g (by omega)).2.1.1) ?_
    refine zr_nicmp_ne X (kk2) (((sL S g 0).length)) (tgt := 188) (by omega) (by omega) dX12_serve_184 (by decide) (fun h6 => ?_) (fun h6 => ?_)
    · skip
      have hjl : kk2 < (sL S g 0).length := by omega
      obtain ⟨c9, hc9⟩ := Nat.exists_eq_succ_of_ne_zero (hy5 hjl)
      have hc12 : c9 < m7 := by (have := zgd_m hw kk2; omega)
      have hT9 : (sL (tL S g 0 ((sL S g 0).eraseIdx kk2)) g 0).length ≤ 10 := by (rw [tL_L, if_pos ⟨rfl, rfl⟩, zlen_erase hjl]; have := hl9 0; omega)
      refine zr_aload3 X dX12_serve_188 ?_
      refine zr_iload4 X dX12_serve_189 ?_
      refine zr_callV1 (rm9 := zrm_X10_take) X hnt zm_X12_98 (by decide) (by decide) (by decide) (Nat.le_of_ble_eq_true rfl) dX12_serve_191 ?_
      refine zp_X10_take (w := (sL S g 0)) (k := kk2) (hM.2.2.2.2.1 g (by omega)).2.1 ((hS.2.2.1 g (by omega)).2.2.2.1) (fun z => absurd (hA _ _ z) (by omega)) (by omega) (by have := hl9 0; omega) ?_
      intro J1 hg2 hl3; have hM4 : zSt J1 A n7 m7 (tL S g 0 ((sL S g 0).eraseIdx kk2)) := zSt_L hA hM (show g < n7 by omega) (Or.inl ⟨rfl, rfl, rfl⟩) hg2 hl3
      refine zr_eq (x2 := (nI c9)) (by rw [hc9]; exact pk_sub (a := c9 + 1) (b := 1) (by omega)) ?_
      refine zr_istore5 X (by decide) rfl dX12_serve_194 ?_
      refine zr_aload0 X dX12_serve_196 ?_
      refine zr_iload5 X dX12_serve_197 ?_
      refine zr_iload2 X dX12_serve_199 ?_
      refine zr_callV2 (rm9 := zrm_X12_refusal) X hnt zm_X12_134 (by decide) (by decide) (by decide) (Nat.le_of_ble_eq_true rfl) dX12_serve_200 ?_
      refine zp0_X12_refusal (c9 := c9) hS hM4 (by omega) (hb _) ?_; have hq4 := qRef_lt (S := (tL S g 0 ((sL S g 0).eraseIdx kk2))) (c := c9) (s := 0)
      refine zr_nif_le X ((qRef (tL S g 0 ((sL S g 0).eraseIdx kk2)) c9 0)) (tgt := 232) (by omega) dX12_serve_203 (by decide) (fun h7 => ?_) (fun h7 => ?_)
      · skip
        refine zr_aload3 X dX12_serve_232 ?_
        refine zr_iload5 X dX12_serve_233 ?_
        refine zr_callV1 (rm9 := zrm_X10_lead) X hnt zm_X12_138 (by decide) (by decide) (by decide) (Nat.le_of_ble_eq_true rfl) dX12_serve_235 ?_
        refine zw_X10_lead (w := (sL (tL S g 0 ((sL S g 0).eraseIdx kk2)) g 0)) (x := ((sL S g 0).getD kk2 0)) (hM4.2.2.2.2.1 g (by omega)).2.1 ((hS.2.2.1 g (by omega)).2.2.2.1) (fun z => absurd (hA _ _ z) (by omega)) (by have := hT9; omega) (by rw [hc9]; exact pk_sub (a := c9 + 1) (b := 1) (by omega)) ?_
        intro J5 hg6 hl7; have hM8 : zSt J5 A n7 m7 (tL (tL S g 0 ((sL S g 0).eraseIdx kk2)) g 0 (((sL S g 0).getD kk2 0) :: (sL (tL S g 0 ((sL S g 0).eraseIdx kk2)) g 0))) := zSt_L hA hM4 (show g < n7 by omega) (Or.inl ⟨rfl, rfl, rfl⟩) hg6 hl7
        refine zr_aload1 X dX12_serve_238 ?_
        refine zr_aload0 X dX12_serve_239 ?_
        refine zr_getI X zf_X12_7 rfl dX12_serve_240 ?_
        refine zr_eq (x2 := (sX (tL (tL S g 0 ((sL S g 0).eraseIdx kk2)) g 0 (((sL S g 0).getD kk2 0) :: (sL (tL S g 0 ((sL S g 0).eraseIdx kk2)) g 0))) 0)) (hM8.2.2.1 0 (by decide) (by decide)) ?_
        refine zr_putI X zf_X12_113 rfl (Or.inl rfl) dX12_serve_243 ?_
        have hM_1 : zSt _ A n7 m7 (tG (tL (tL S g 0 ((sL S g 0).eraseIdx kk2)) g 0 (((sL S g 0).getD kk2 0) :: (sL (tL S g 0 ((sL S g 0).eraseIdx kk2)) g 0))) g 1 (sX (tL (tL S g 0 ((sL S g 0).eraseIdx kk2)) g 0 (((sL S g 0).getD kk2 0) :: (sL (tL S g 0 ((sL S g 0).eraseIdx kk2)) g 0))) 0)) := zSt_G hA hM8 (show g < n7 by omega) (j := 1) (v := (sX (tL (tL S g 0 ((sL S g 0).eraseIdx kk2)) g 0 (((sL S g 0).getD kk2 0) :: (sL (tL S g 0 ((sL S g 0).eraseIdx kk2)) g 0))) 0)) (x := (sX (tL (tL S g 0 ((sL S g 0).eraseIdx kk2)) g 0 (((sL S g 0).getD kk2 0) :: (sL (tL S g 0 ((sL S g 0).eraseIdx kk2)) g 0))) 0)) (by decide) (by first | rfl | decide | exact (zside _).symm | exact (zside6 _).symm)
        refine zr_aload1 X dX12_serve_246 ?_
        refine zr_iload2 X dX12_serve_247 ?_
        refine zr_putI X zf_X12_116 rfl (Or.inl rfl) dX12_serve_248 ?_
        have hM_2 : zSt _ A n7 m7 (tG (tG (tL (tL S g 0 ((sL S g 0).eraseIdx kk2)) g 0 (((sL S g 0).getD kk2 0) :: (sL (tL S g 0 ((sL S g 0).eraseIdx kk2)) g 0))) g 1 (sX (tL (tL S g 0 ((sL S g 0).eraseIdx kk2)) g 0 (((sL S g 0).getD kk2 0) :: (sL (tL S g 0 ((sL S g 0).eraseIdx kk2)) g 0))) 0)) g 2 (nI (0 + 1))) := zSt_G hA hM_1 (show g < n7 by omega) (j := 2) (v := (nI (0 + 1))) (x := (0 : Int32)) (by decide) (by first | rfl | decide | exact (zside _).symm | exact (zside6 _).symm)
        refine zr_aload1 X dX12_serve_251 ?_
        refine zr_iload2 X dX12_serve_252 ?_
        refine zr_putI X zf_X12_141 rfl (Or.inl rfl) dX12_serve_253 ?_
        have hM_3 : zSt _ A n7 m7 (tG (tG (tG (tL (tL S g 0 ((sL S g 0).eraseIdx kk2)) g 0 (((sL S g 0).getD kk2 0) :: (sL (tL S g 0 ((sL S g 0).eraseIdx kk2)) g 0))) g 1 (sX (tL (tL S g 0 ((sL S g 0).eraseIdx kk2)) g 0 (((sL S g 0).getD kk2 0) :: (sL (tL S g 0 ((sL S g 0).eraseIdx kk2)) g 0))) 0)) g 2 (nI (0 + 1))) g 6 (nI (0 + 1))) := zSt_G hA hM_2 (show g < n7 by omega) (j := 6) (v := (nI (0 + 1))) (x := (0 : Int32)) (by decide) (by first | rfl | decide | exact (zside _).symm | exact (zside6 _).symm)
        refine zr_aload1 X dX12_serve_256 ?_
        refine zr_iconst (v := (1 : Int32)) X dX12_serve_257 (by decide) ?_
        refine zr_putI X zf_X12_119 rfl (Or.inr (by first | decide | assumption | (simp; done))) dX12_serve_258 ?_
        have hM_4 : zSt _ A n7 m7 (tG (tG (tG (tG (tL (tL S g 0 ((sL S g 0).eraseIdx kk2)) g 0 (((sL S g 0).getD kk2 0) :: (sL (tL S g 0 ((sL S g 0).eraseIdx kk2)) g 0))) g 1 (sX (tL (tL S g 0 ((sL S g 0).eraseIdx kk2)) g 0 (((sL S g 0).getD kk2 0) :: (sL (tL S g 0 ((sL S g 0).eraseIdx kk2)) g 0))) 0)) g 2 (nI (0 + 1))) g 6 (nI (0 + 1))) g 3 (1 : Int32)) := zSt_G hA hM_3 (show g < n7 by omega) (j := 3) (v := (1 : Int32)) (x := (1 : Int32)) (by decide) (by first | rfl | decide | exact (zside _).symm | exact (zside6 _).symm)
        refine zr_aload1 X dX12_serve_261 ?_
        refine zr_dupR X dX12_serve_262 ?_
        refine zr_getI X zf_X12_144 rfl dX12_serve_263 ?_
        refine zr_eq (x2 := (sG (tG (tG (tG (tG (tL (tL S g 0 ((sL S g 0).eraseIdx kk2)) g 0 (((sL S g 0).getD kk2 0) :: (sL (tL S g 0 ((sL S g 0).eraseIdx kk2)) g 0))) g 1 (sX (tL (tL S g 0 ((sL S g 0).eraseIdx kk2)) g 0 (((sL S g 0).getD kk2 0) :: (sL (tL S g 0 ((sL S g 0).eraseIdx kk2)) g 0))) 0)) g 2 (nI (0 + 1))) g 6 (nI (0 + 1))) g 3 (1 : Int32)) g 5)) ((hM_4.2.2.2.2.1 g (by omega)).1 5 (by decide)) ?_
        refine zr_iconst (v := (1 : Int32)) X dX12_serve_266 (by decide) ?_
        refine zr_iadd X dX12_serve_267 ?_
        refine zr_putI X zf_X12_144 rfl (Or.inl rfl) dX12_serve_268 ?_
        have hM_5 : zSt _ A n7 m7 (tG (tG (tG (tG (tG (tL (tL S g 0 ((sL S g 0).eraseIdx kk2)) g 0 (((sL S g 0).getD kk2 0) :: (sL (tL S g 0 ((sL S g 0).eraseIdx kk2)) g 0))) g 1 (sX (tL (tL S g 0 ((sL S g 0).eraseIdx kk2)) g 0 (((sL S g 0).getD kk2 0) :: (sL (tL S g 0 ((sL S g 0).eraseIdx kk2)) g 0))) 0)) g 2 (nI (0 + 1))) g 6 (nI (0 + 1))) g 3 (1 : Int32)) g 5 ((sG (tG (tG (tG (tG (tL (tL S g 0 ((sL S g 0).eraseIdx kk2)) g 0 (((sL S g 0).getD kk2 0) :: (sL (tL S g 0 ((sL S g 0).eraseIdx kk2)) g 0))) g 1 (sX (tL (tL S g 0 ((sL S g 0).eraseIdx kk2)) g 0 (((sL S g 0).getD kk2 0) :: (sL (tL S g 0 ((sL S g 0).eraseIdx kk2)) g 0))) 0)) g 2 (nI (0 + 1))) g 6 (nI (0 + 1))) g 3 (1 : Int32)) g 5) + (1 : Int32))) := zSt_G hA hM_4 (show g < n7 by omega) (j := 5) (v := ((sG (tG (tG (tG (tG (tL (tL S g 0 ((sL S g 0).eraseIdx kk2)) g 0 (((sL S g 0).getD kk2 0) :: (sL (tL S g 0 ((sL S g 0).eraseIdx kk2)) g 0))) g 1 (sX (tL (tL S g 0 ((sL S g 0).eraseIdx kk2)) g 0 (((sL S g 0).getD kk2 0) :: (sL (tL S g 0 ((sL S g 0).eraseIdx kk2)) g 0))) 0)) g 2 (nI (0 + 1))) g 6 (nI (0 + 1))) g 3 (1 : Int32)) g 5) + (1 : Int32))) (x := ((sG (tG (tG (tG (tG (tL (tL S g 0 ((sL S g 0).eraseIdx kk2)) g 0 (((sL S g 0).getD kk2 0) :: (sL (tL S g 0 ((sL S g 0).eraseIdx kk2)) g 0))) g 1 (sX (tL (tL S g 0 ((sL S g 0).eraseIdx kk2)) g 0 (((sL S g 0).getD kk2 0) :: (sL (tL S g 0 ((sL S g 0).eraseIdx kk2)) g 0))) 0)) g 2 (nI (0 + 1))) g 6 (nI (0 + 1))) g 3 (1 : Int32)) g 5) + (1 : Int32))) (by decide) (by first | rfl | decide | exact (zside _).symm | exact (zside6 _).symm)
        refine zr_vret X (by decide) (by decide) dX12_serve_271 ?_
        refine k1 _ (by repeat (first | exact zgA.rf | assumption | refine zgA.put ?_ (by unfold zvd; omega) | refine zgA.two ?_ (by assumption) (by unfold zvd; omega) (by unfold zvd; omega) | refine zgA.tr ?_ (by assumption))) ?_
        refine cast (congrArg (zSt _ A n7 m7) ?_) hM_5
        rw [qOpen, k2, qFirst_of hjl (hy5 hjl) hz4, if_pos hjl, qOpenAt, hc9, Nat.succ_sub_one]
        rw [if_pos (by have h8 : qRef (tL S g 0 ((sL S g 0).eraseIdx kk2)) c9 0 = 0 := (by omega); exact h8)]
        rw [tL_tL, tL_L, if_pos ⟨rfl, rfl⟩, tG_comm (show (6 : Nat) ≠ 3 by decide)]
        unfold qOpened; rw [show nI (0 + 1) = (1 : Int32) from rfl]
        rw [tG_comm (show (6 : Nat) ≠ 5 by decide)]; simp [tG_G]
      · skip
        refine zr_aload0 X dX12_serve_206 ?_
        refine zr_dupR X dX12_serve_207 ?_
        refine zr_getI X zf_X12_53 rfl dX12_serve_208 ?_
        refine zr_eq (x2 := (sX (tL S g 0 ((sL S g 0).eraseIdx kk2)) 12)) (hM4.2.2.1 12 (by decide) (by decide)) ?_
        refine zr_iconst (v := (1 : Int32)) X dX12_serve_211 (by decide) ?_
        refine zr_iadd X dX12_serve_212 ?_
        refine zr_putI X zf_X12_53 rfl (Or.inl rfl) dX12_serve_213 ?_
        have hM_6 : zSt _ A n7 m7 (tX (tL S g 0 ((sL S g 0).eraseIdx kk2)) 12 ((sX (tL S g 0 ((sL S g 0).eraseIdx kk2)) 12) + (1 : Int32))) := zSt_X hA hM4 (i := 12) (v := ((sX (tL S g 0 ((sL S g 0).eraseIdx kk2)) 12) + (1 : Int32))) (by decide) (by decide)
        refine zr_iload2 X dX12_serve_216 ?_
        refine zr_iconst (v := (1 : Int32)) X dX12_serve_217 (by decide) ?_
        refine zr_icmp_ne (tgt := 231) X dX12_serve_218 (by decide) (fun _ => ?_) (fun h => absurd h (by decide))
        refine zr_vret X (by decide) (by decide) dX12_serve_231 ?_
        refine k1 _ (by repeat (first | exact zgA.rf | assumption | refine zgA.put ?_ (by unfold zvd; omega) | refine zgA.two ?_ (by assumption) (by unfold zvd; omega) (by unfold zvd; omega) | refine zgA.tr ?_ (by assumption))) ?_
        refine cast (congrArg (zSt _ A n7 m7) ?_) hM_6
        rw [qOpen, k2, qFirst_of hjl (hy5 hjl) hz4, if_pos hjl, qOpenAt, hc9, Nat.succ_sub_one]
        rw [if_neg (by have h8 : ¬ qRef (tL S g 0 ((sL S g 0).eraseIdx kk2)) c9 0 = 0 := (by omega); exact h8)]
        rw [qAway, if_neg (by decide)]
    · skip
      refine zr_vret X (by decide) (by decide) dX12_serve_187 ?_
      refine k1 _ (by repeat (first | exact zgA.rf | assumption | refine zgA.put ?_ (by unfold zvd; omega) | refine zgA.two ?_ (by assumption) (by unfold zvd; omega) (by unfold zvd; omega) | refine zgA.tr ?_ (by assumption))) ?_
      refine cast (congrArg (zSt _ A n7 m7) ?_) hM
      rw [qOpen, k2, if_neg (qFirst_none (fun i hi => hz4 i (by omega)))]
  · exact absurd k0 h1
set_option maxRecDepth 20000 in
theorem zpC1_X12_serve {l : Launch} {D : va_G} {b0 : Nat} {tA : Nat → ClassId} {sa sv : Nat → Nat} {K : zKt} {I : zI} {Qp : zI → Option AV → Prop} {Xp : String → zI → Prop} {A : Nat → Nat} {n7 m7 g : Nat} {S : zS}
    (hS : zSh K A n7 m7) (hM : zSt I A n7 m7 S) (hK : (sX S 6 = 0 ∨ sX S 6 = 1) ∧ (sX S 7 = 0 ∨ sX S 7 = 1) ∧ (sX S 8 = 0 ∨ sX S 8 = 1)) (hp : ¬ zPanB S = true) (hg : g < n7) (hl9 : ∀ s, (sL S g s).length ≤ 10) (hw : ∀ y ∈ (sL S g 1), y ≤ m7) (hb : ∀ c : Nat, (sC S c 1 = 0 ∨ sC S c 1 = 1) ∧ (sC S c 2 = 0 ∨ sC S c 2 = 1)) (k0 : sG S g 1 ≤ 0) (k2 : qTurn S g = 1) (k1 : ∀ J : zI, zgA I J A n7 m7 → zSt J A n7 m7 (qOpen S g) → Qp J none) :
    zC l D b0 tA sa sv K yX12_serve (.code yX12_serve cX12_serve 6 none) zrm_X12_serve [vr (A (0)) 17, vr (A (4 + 5 * g)) 14] I Qp Xp := by
  have hA := hS.1
  have hn6 := hM.1.1
  have hm12 := hM.1.2
  have hl0 := hl9 0
  have hl1 := hl9 1
  refine zC_of (by decide +kernel) (Nat.le_of_ble_eq_true rfl) ?_
  intro p e s m args below meth c X hnt
  have X : zX p l e zrm_X12_serve s m args below meth c RX12 cX12_serve 6 none D b0 tA sa sv := X
  refine zr_lv (lv2 := [some (vr (A (0)) 17), some (vr (A (4 + 5 * g)) 14), none, none, none, none]) rfl ?_
  refine zr_aload0 X dX12_serve_0 ?_
  refine zr_callV0 (rm9 := zrm_X12_isPanic) X hnt zm_X12_87 (by decide) (by decide) (by decide) (Nat.le_of_ble_eq_true rfl) dX12_serve_1 ?_
  refine zp_X12_isPanic hS hM hK (fun h => absurd h hp) (fun _ => ?_)
  refine zr_if_eq (tgt := 51) X dX12_serve_4 (by decide) (fun _ => ?_) (fun h => absurd h (by decide))
  refine zr_aload1 X dX12_serve_51 ?_
  refine zr_getI X zf_X12_113 rfl dX12_serve_52 ?_
  refine zr_eq (x2 := (sG S g 1)) ((hM.2.2.2.2.1 g (by omega)).1 1 (by decide)) ?_
  refine zr_if_le (tgt := 161) X dX12_serve_55 (by decide) (fun h1 => ?_) (fun h1 => ?_)
  · skip
    refine zr_aload1 X dX12_serve_161 ?_
    refine zr_callV0 (rm9 := zrm_X9_next) X hnt zm_X12_128 (by decide) (by decide) (by decide) (Nat.le_of_ble_eq_true rfl) dX12_serve_162 ?_
    refine zp_X9_next hS hM (by omega) hl9 ?_; rw [k2]
    refine zr_istore2 X (by decide) rfl dX12_serve_165 ?_
    refine zr_aload1 X dX12_serve_166 ?_
    refine zr_iload2 X dX12_serve_167 ?_
    refine zr_callV1 (rm9 := zrm_X9_line) X hnt zm_X12_94 (by decide) (by decide) (by decide) (Nat.le_of_ble_eq_true rfl) dX12_serve_168 ?_
    refine zp1_X9_line hS (by omega) ?_
    refine zr_astore3 X (by decide) rfl dX12_serve_171 ?_
    refine zr_aload3 X dX12_serve_172 ?_
    refine zr_callV0 (rm9 := zrm_X10_firstCard) X hnt zm_X12_131 (by decide) (by decide) (by decide) (Nat.le_of_ble_eq_true rfl) dX12_serve_173 ?_
    refine zp_X10_firstCard (w := (sL S g 1)) (hM.2.2.2.2.1 g (by omega)).2.2 ((hS.2.2.1 g (by omega)).2.2.2.2) (fun z => absurd (hA _ _ z) (by omega)) (by have := hl9 1; omega) (fun y hy => Nat.le_trans (hw y hy) hm12) ?_
    intro kk2 hb3 hz4 hy5
    refine zr_istore4 X (by decide) rfl dX12_serve_176 ?_
    refine zr_iload4 X dX12_serve_178 ?_
    refine zr_aload3 X dX12_serve_180 ?_
    refine zr_getI X zf_X12_108 rfl dX12_serve_181 ?_
    refine zr_eq (x2 := (nI ((sL S g 1).length))) ((hM.2.2.2.2.1 g (by omega)).2.2.1) ?_
    refine zr_nicmp_ne X (kk2) (((sL S g 1).length)) (tgt := 188) (by omega) (by omega) dX12_serve_184 (by decide) (fun h6 => ?_) (fun h6 => ?_)
    · skip
      have hjl : kk2 < (sL S g 1).length := by omega
      obtain ⟨c9, hc9⟩ := Nat.exists_eq_succ_of_ne_zero (hy5 hjl)
      have hc12 : c9 < m7 := by (have := zgd_m hw kk2; omega)
      have hT9 : (sL (tL S g 1 ((sL S g 1).eraseIdx kk2)) g 1).length ≤ 10 := by (rw [tL_L, if_pos ⟨rfl, rfl⟩, zlen_erase hjl]; have := hl9 1; omega)
      refine zr_aload3 X dX12_serve_188 ?_
      refine zr_iload4 X dX12_serve_189 ?_
      refine zr_callV1 (rm9 := zrm_X10_take) X hnt zm_X12_98 (by decide) (by decide) (by decide) (Nat.le_of_ble_eq_true rfl) dX12_serve_191 ?_
      refine zp_X10_take (w := (sL S g 1)) (k := kk2) (hM.2.2.2.2.1 g (by omega)).2.2 ((hS.2.2.1 g (by omega)).2.2.2.2) (fun z => absurd (hA _ _ z) (by omega)) (by omega) (by have := hl9 1; omega) ?_
      intro J1 hg2 hl3; have hM4 : zSt J1 A n7 m7 (tL S g 1 ((sL S g 1).eraseIdx kk2)) := zSt_L hA hM (show g < n7 by omega) (Or.inr ⟨rfl, rfl, rfl⟩) hg2 hl3
      refine zr_eq (x2 := (nI c9)) (by rw [hc9]; exact pk_sub (a := c9 + 1) (b := 1) (by omega)) ?_
      refine zr_istore5 X (by decide) rfl dX12_serve_194 ?_
      refine zr_aload0 X dX12_serve_196 ?_
      refine zr_iload5 X dX12_serve_197 ?_
      refine zr_iload2 X dX12_serve_199 ?_
      refine zr_callV2 (rm9 := zrm_X12_refusal) X hnt zm_X12_134 (by decide) (by decide) (by decide) (Nat.le_of_ble_eq_true rfl) dX12_serve_200 ?_
      refine zp1_X12_refusal (c9 := c9) hS hM4 (by omega) (hb _) ?_; have hq4 := qRef_lt (S := (tL S g 1 ((sL S g 1).eraseIdx kk2))) (c := c9) (s := 1)
      refine zr_nif_le X ((qRef (tL S g 1 ((sL S g 1).eraseIdx kk2)) c9 1)) (tgt := 232) (by omega) dX12_serve_203 (by decide) (fun h7 => ?_) (fun h7 => ?_)
      · skip
        refine zr_aload3 X dX12_serve_232 ?_
        refine zr_iload5 X dX12_serve_233 ?_
        refine zr_callV1 (rm9 := zrm_X10_lead) X hnt zm_X12_138 (by decide) (by decide) (by decide) (Nat.le_of_ble_eq_true rfl) dX12_serve_235 ?_
        refine zw_X10_lead (w := (sL (tL S g 1 ((sL S g 1).eraseIdx kk2)) g 1)) (x := ((sL S g 1).getD kk2 0)) (hM4.2.2.2.2.1 g (by omega)).2.2 ((hS.2.2.1 g (by omega)).2.2.2.2) (fun z => absurd (hA _ _ z) (by omega)) (by have := hT9; omega) (by rw [hc9]; exact pk_sub (a := c9 + 1) (b := 1) (by omega)) ?_
        intro J5 hg6 hl7; have hM8 : zSt J5 A n7 m7 (tL (tL S g 1 ((sL S g 1).eraseIdx kk2)) g 1 (((sL S g 1).getD kk2 0) :: (sL (tL S g 1 ((sL S g 1).eraseIdx kk2)) g 1))) := zSt_L hA hM4 (show g < n7 by omega) (Or.inr ⟨rfl, rfl, rfl⟩) hg6 hl7
        refine zr_aload1 X dX12_serve_238 ?_
        refine zr_aload0 X dX12_serve_239 ?_
        refine zr_getI X zf_X12_7 rfl dX12_serve_240 ?_
        refine zr_eq (x2 := (sX (tL (tL S g 1 ((sL S g 1).eraseIdx kk2)) g 1 (((sL S g 1).getD kk2 0) :: (sL (tL S g 1 ((sL S g 1).eraseIdx kk2)) g 1))) 0)) (hM8.2.2.1 0 (by decide) (by decide)) ?_
        refine zr_putI X zf_X12_113 rfl (Or.inl rfl) dX12_serve_243 ?_
        have hM_1 : zSt _ A n7 m7 (tG (tL (tL S g 1 ((sL S g 1).eraseIdx kk2)) g 1 (((sL S g 1).getD kk2 0) :: (sL (tL S g 1 ((sL S g 1).eraseIdx kk2)) g 1))) g 1 (sX (tL (tL S g 1 ((sL S g 1).eraseIdx kk2)) g 1 (((sL S g 1).getD kk2 0) :: (sL (tL S g 1 ((sL S g 1).eraseIdx kk2)) g 1))) 0)) := zSt_G hA hM8 (show g < n7 by omega) (j := 1) (v := (sX (tL (tL S g 1 ((sL S g 1).eraseIdx kk2)) g 1 (((sL S g 1).getD kk2 0) :: (sL (tL S g 1 ((sL S g 1).eraseIdx kk2)) g 1))) 0)) (x := (sX (tL (tL S g 1 ((sL S g 1).eraseIdx kk2)) g 1 (((sL S g 1).getD kk2 0) :: (sL (tL S g 1 ((sL S g 1).eraseIdx kk2)) g 1))) 0)) (by decide) (by first | rfl | decide | exact (zside _).symm | exact (zside6 _).symm)
        refine zr_aload1 X dX12_serve_246 ?_
        refine zr_iload2 X dX12_serve_247 ?_
        refine zr_putI X zf_X12_116 rfl (Or.inl rfl) dX12_serve_248 ?_
        have hM_2 : zSt _ A n7 m7 (tG (tG (tL (tL S g 1 ((sL S g 1).eraseIdx kk2)) g 1 (((sL S g 1).getD kk2 0) :: (sL (tL S g 1 ((sL S g 1).eraseIdx kk2)) g 1))) g 1 (sX (tL (tL S g 1 ((sL S g 1).eraseIdx kk2)) g 1 (((sL S g 1).getD kk2 0) :: (sL (tL S g 1 ((sL S g 1).eraseIdx kk2)) g 1))) 0)) g 2 (nI (1 + 1))) := zSt_G hA hM_1 (show g < n7 by omega) (j := 2) (v := (nI (1 + 1))) (x := (1 : Int32)) (by decide) (by first | rfl | decide | exact (zside _).symm | exact (zside6 _).symm)
        refine zr_aload1 X dX12_serve_251 ?_
        refine zr_iload2 X dX12_serve_252 ?_
        refine zr_putI X zf_X12_141 rfl (Or.inl rfl) dX12_serve_253 ?_
        have hM_3 : zSt _ A n7 m7 (tG (tG (tG (tL (tL S g 1 ((sL S g 1).eraseIdx kk2)) g 1 (((sL S g 1).getD kk2 0) :: (sL (tL S g 1 ((sL S g 1).eraseIdx kk2)) g 1))) g 1 (sX (tL (tL S g 1 ((sL S g 1).eraseIdx kk2)) g 1 (((sL S g 1).getD kk2 0) :: (sL (tL S g 1 ((sL S g 1).eraseIdx kk2)) g 1))) 0)) g 2 (nI (1 + 1))) g 6 (nI (1 + 1))) := zSt_G hA hM_2 (show g < n7 by omega) (j := 6) (v := (nI (1 + 1))) (x := (1 : Int32)) (by decide) (by first | rfl | decide | exact (zside _).symm | exact (zside6 _).symm)
        refine zr_aload1 X dX12_serve_256 ?_
        refine zr_iconst (v := (1 : Int32)) X dX12_serve_257 (by decide) ?_
        refine zr_putI X zf_X12_119 rfl (Or.inr (by first | decide | assumption | (simp; done))) dX12_serve_258 ?_
        have hM_4 : zSt _ A n7 m7 (tG (tG (tG (tG (tL (tL S g 1 ((sL S g 1).eraseIdx kk2)) g 1 (((sL S g 1).getD kk2 0) :: (sL (tL S g 1 ((sL S g 1).eraseIdx kk2)) g 1))) g 1 (sX (tL (tL S g 1 ((sL S g 1).eraseIdx kk2)) g 1 (((sL S g 1).getD kk2 0) :: (sL (tL S g 1 ((sL S g 1).eraseIdx kk2)) g 1))) 0)) g 2 (nI (1 + 1))) g 6 (nI (1 + 1))) g 3 (1 : Int32)) := zSt_G hA hM_3 (show g < n7 by omega) (j := 3) (v := (1 : Int32)) (x := (1 : Int32)) (by decide) (by first | rfl | decide | exact (zside _).symm | exact (zside6 _).symm)
        refine zr_aload1 X dX12_serve_261 ?_
        refine zr_dupR X dX12_serve_262 ?_
        refine zr_getI X zf_X12_144 rfl dX12_serve_263 ?_
        refine zr_eq (x2 := (sG (tG (tG (tG (tG (tL (tL S g 1 ((sL S g 1).eraseIdx kk2)) g 1 (((sL S g 1).getD kk2 0) :: (sL (tL S g 1 ((sL S g 1).eraseIdx kk2)) g 1))) g 1 (sX (tL (tL S g 1 ((sL S g 1).eraseIdx kk2)) g 1 (((sL S g 1).getD kk2 0) :: (sL (tL S g 1 ((sL S g 1).eraseIdx kk2)) g 1))) 0)) g 2 (nI (1 + 1))) g 6 (nI (1 + 1))) g 3 (1 : Int32)) g 5)) ((hM_4.2.2.2.2.1 g (by omega)).1 5 (by decide)) ?_
        refine zr_iconst (v := (1 : Int32)) X dX12_serve_266 (by decide) ?_
        refine zr_iadd X dX12_serve_267 ?_
        refine zr_putI X zf_X12_144 rfl (Or.inl rfl) dX12_serve_268 ?_
        have hM_5 : zSt _ A n7 m7 (tG (tG (tG (tG (tG (tL (tL S g 1 ((sL S g 1).eraseIdx kk2)) g 1 (((sL S g 1).getD kk2 0) :: (sL (tL S g 1 ((sL S g 1).eraseIdx kk2)) g 1))) g 1 (sX (tL (tL S g 1 ((sL S g 1).eraseIdx kk2)) g 1 (((sL S g 1).getD kk2 0) :: (sL (tL S g 1 ((sL S g 1).eraseIdx kk2)) g 1))) 0)) g 2 (nI (1 + 1))) g 6 (nI (1 + 1))) g 3 (1 : Int32)) g 5 ((sG (tG (tG (tG (tG (tL (tL S g 1 ((sL S g 1).eraseIdx kk2)) g 1 (((sL S g 1).getD kk2 0) :: (sL (tL S g 1 ((sL S g 1).eraseIdx kk2)) g 1))) g 1 (sX (tL (tL S g 1 ((sL S g 1).eraseIdx kk2)) g 1 (((sL S g 1).getD kk2 0) :: (sL (tL S g 1 ((sL S g 1).eraseIdx kk2)) g 1))) 0)) g 2 (nI (1 + 1))) g 6 (nI (1 + 1))) g 3 (1 : Int32)) g 5) + (1 : Int32))) := zSt_G hA hM_4 (show g < n7 by omega) (j := 5) (v := ((sG (tG (tG (tG (tG (tL (tL S g 1 ((sL S g 1).eraseIdx kk2)) g 1 (((sL S g 1).getD kk2 0) :: (sL (tL S g 1 ((sL S g 1).eraseIdx kk2)) g 1))) g 1 (sX (tL (tL S g 1 ((sL S g 1).eraseIdx kk2)) g 1 (((sL S g 1).getD kk2 0) :: (sL (tL S g 1 ((sL S g 1).eraseIdx kk2)) g 1))) 0)) g 2 (nI (1 + 1))) g 6 (nI (1 + 1))) g 3 (1 : Int32)) g 5) + (1 : Int32))) (x := ((sG (tG (tG (tG (tG (tL (tL S g 1 ((sL S g 1).eraseIdx kk2)) g 1 (((sL S g 1).getD kk2 0) :: (sL (tL S g 1 ((sL S g 1).eraseIdx kk2)) g 1))) g 1 (sX (tL (tL S g 1 ((sL S g 1).eraseIdx kk2)) g 1 (((sL S g 1).getD kk2 0) :: (sL (tL S g 1 ((sL S g 1).eraseIdx kk2)) g 1))) 0)) g 2 (nI (1 + 1))) g 6 (nI (1 + 1))) g 3 (1 : Int32)) g 5) + (1 : Int32))) (by decide) (by first | rfl | decide | exact (zside _).symm | exact (zside6 _).symm)
        refine zr_vret X (by decide) (by decide) dX12_serve_271 ?_
        refine k1 _ (by repeat (first | exact zgA.rf | assumption | refine zgA.put ?_ (by unfold zvd; omega) | refine zgA.two ?_ (by assumption) (by unfold zvd; omega) (by unfold zvd; omega) | refine zgA.tr ?_ (by assumption))) ?_
        refine cast (congrArg (zSt _ A n7 m7) ?_) hM_5
        rw [qOpen, k2, qFirst_of hjl (hy5 hjl) hz4, if_pos hjl, qOpenAt, hc9, Nat.succ_sub_one]
        rw [if_pos (by have h8 : qRef (tL S g 1 ((sL S g 1).eraseIdx kk2)) c9 1 = 0 := (by omega); exact h8)]
        rw [tL_tL, tL_L, if_pos ⟨rfl, rfl⟩, tG_comm (show (6 : Nat) ≠ 3 by decide)]
        unfold qOpened; rw [show nI (1 + 1) = (2 : Int32) from rfl]
        rw [tG_comm (show (6 : Nat) ≠ 5 by decide)]; simp [tG_G]
      · skip
        refine zr_aload0 X dX12_serve_206 ?_
        refine zr_dupR X dX12_serve_207 ?_
        refine zr_getI X zf_X12_53 rfl dX12_serve_208 ?_
        refine zr_eq (x2 := (sX (tL S g 1 ((sL S g 1).eraseIdx kk2)) 12)) (hM4.2.2.1 12 (by decide) (by decide)) ?_
        refine zr_iconst (v := (1 : Int32)) X dX12_serve_211 (by decide) ?_
        refine zr_iadd X dX12_serve_212 ?_
        refine zr_putI X zf_X12_53 rfl (Or.inl rfl) dX12_serve_213 ?_
        have hM_6 : zSt _ A n7 m7 (tX (tL S g 1 ((sL S g 1).eraseIdx kk2)) 12 ((sX (tL S g 1 ((sL S g 1).eraseIdx kk2)) 12) + (1 : Int32))) := zSt_X hA hM4 (i := 12) (v := ((sX (tL S g 1 ((sL S g 1).eraseIdx kk2)) 12) + (1 : Int32))) (by decide) (by decide)
        refine zr_iload2 X dX12_serve_216 ?_
        refine zr_iconst (v := (1 : Int32)) X dX12_serve_217 (by decide) ?_
        refine zr_icmp_ne (tgt := 231) X dX12_serve_218 (by decide) (fun h => absurd h (by decide)) (fun _ => ?_)
        refine zr_aload0 X dX12_serve_221 ?_
        refine zr_dupR X dX12_serve_222 ?_
        refine zr_getI X zf_X12_19 rfl dX12_serve_223 ?_
        refine zr_eq (x2 := (sX (tX (tL S g 1 ((sL S g 1).eraseIdx kk2)) 12 ((sX (tL S g 1 ((sL S g 1).eraseIdx kk2)) 12) + (1 : Int32))) 3)) (hM_6.2.2.1 3 (by decide) (by decide)) ?_
        refine zr_iconst (v := (1 : Int32)) X dX12_serve_226 (by decide) ?_
        refine zr_isub X dX12_serve_227 ?_
        refine zr_putI X zf_X12_19 rfl (Or.inl rfl) dX12_serve_228 ?_
        have hM_7 : zSt _ A n7 m7 (tX (tX (tL S g 1 ((sL S g 1).eraseIdx kk2)) 12 ((sX (tL S g 1 ((sL S g 1).eraseIdx kk2)) 12) + (1 : Int32))) 3 ((sX (tX (tL S g 1 ((sL S g 1).eraseIdx kk2)) 12 ((sX (tL S g 1 ((sL S g 1).eraseIdx kk2)) 12) + (1 : Int32))) 3) - (1 : Int32))) := zSt_X hA hM_6 (i := 3) (v := ((sX (tX (tL S g 1 ((sL S g 1).eraseIdx kk2)) 12 ((sX (tL S g 1 ((sL S g 1).eraseIdx kk2)) 12) + (1 : Int32))) 3) - (1 : Int32))) (by decide) (by decide)
        refine zr_vret X (by decide) (by decide) dX12_serve_231 ?_
        refine k1 _ (by repeat (first | exact zgA.rf | assumption | refine zgA.put ?_ (by unfold zvd; omega) | refine zgA.two ?_ (by assumption) (by unfold zvd; omega) (by unfold zvd; omega) | refine zgA.tr ?_ (by assumption))) ?_
        rw [qOpen, k2, qFirst_of hjl (hy5 hjl) hz4, if_pos hjl, qOpenAt, hc9, Nat.succ_sub_one]
        rw [if_neg (by have h8 : ¬ qRef (tL S g 1 ((sL S g 1).eraseIdx kk2)) c9 1 = 0 := (by omega); exact h8)]
        rw [qAway, if_pos rfl]; exact zSt.same hM_7 (fun i hi => by simp [tX_X, show i ≠ 15 by omega]) rfl
    · skip
      refine zr_vret X (by decide) (by decide) dX12_serve_187 ?_
      refine k1 _ (by repeat (first | exact zgA.rf | assumption | refine zgA.put ?_ (by unfold zvd; omega) | refine zgA.two ?_ (by assumption) (by unfold zvd; omega) (by unfold zvd; omega) | refine zgA.tr ?_ (by assumption))) ?_
      refine cast (congrArg (zSt _ A n7 m7) ?_) hM
      rw [qOpen, k2, if_neg (qFirst_none (fun i hi => hz4 i (by omega)))]
  · exact absurd k0 h1
theorem zq_X12_serve {l : Launch} {D : va_G} {b0 : Nat} {tA : Nat → ClassId} {sa sv : Nat → Nat} {K : zKt} {I : zI} {Qp : zI → Option AV → Prop} {Xp : String → zI → Prop} {A : Nat → Nat} {n7 m7 g : Nat} {S : zS} (hS : zSh K A n7 m7) (hM : zSt I A n7 m7 S) (hW : zWf S) (hg : g < n7) (k1 : ∀ J : zI, zgA I J A n7 m7 → zSt J A n7 m7 (qLive S g) → Qp J none) :
    zC l D b0 tA sa sv K yX12_serve (.code yX12_serve cX12_serve 6 none) zrm_X12_serve [vr (A (0)) 17, vr (A (4 + 5 * g)) 14] I Qp Xp := by
  have hm := hM.nc
  have hw : ∀ s, ∀ y ∈ sL S g s, y ≤ m7 := fun s y hy => by have := hW.le g s y hy; omega
  unfold qLive at k1
  by_cases hp : zPanB S = true
  · obtain ⟨f, f1, f2, f3⟩ := hW.flow
    rw [if_pos hp, f3, nI_clamp (by omega)] at k1
    exact zpP_X12_serve hS hM hW.keys hp hg f3 f2 (hw 1) (hW.len g 1) k1
  · rw [if_neg hp] at k1
    obtain ⟨hm0, hm6, ⟨h2, h1, h3⟩ | ⟨o, o1, o2, o3, ho⟩⟩ := hW.pad g
    · rw [if_neg (fun z => z h2)] at k1
      rcases qTurn_lt (S := S) (g := g) with h | h
      · exact zpC0_X12_serve hS hM hW.keys hp hg (hW.len g) (hw 0) hW.bits (by rw [h1]; decide) h k1
      · exact zpC1_X12_serve hS hM hW.keys hp hg (hW.len g) (hw 1) hW.bits (by rw [h1]; decide) h k1
    · have k0 : ¬ sG S g 1 ≤ 0 := fun z => by
        rw [o3] at z
        have := (nI_leI (a := o) (b := 0) (by omega) (by decide)).mp z
        omega
      rcases ho with ⟨h2, h3⟩ | ⟨h2, h3⟩
      · rw [if_pos (by rw [h2]; decide)] at k1
        exact zpO0_X12_serve hS hM hW.keys hp hg (hW.len g 0) (hw 0) k0 h2 h3 k1
      · rw [if_pos (by rw [h2]; decide)] at k1
        exact zpO1_X12_serve hS hM hW.keys hp hg (hW.len g 1) (hw 1) k0 h2 h3 k1
abbrev zrm_X12_tick : Room := { frames := 3, cells := 0, slots := 0, locals := 72 }
theorem qGates_tail {S : zS} {n : Nat} (hW : zWf S) (hn : zng (qGates S n) ≤ n) : ∀ k, qGates S (n + k) = qGates S n
  | 0 => rfl
  | k + 1 => by
    show qLive (qGates S (n + k)) (n + k) = _
    rw [qGates_tail hW hn k]
    exact qLive_blank (zWf_gates hW n) (by omega)
theorem qShut_id {S : zS} (h : ∀ g, sG S g 1 = 0 ∧ sG S g 2 = 0 ∧ sG S g 3 = 0) (n : Nat) : qShut S n = S := by
  refine Prod.ext (qShut_X n) (Prod.ext ?_ ?_)
  · funext g j
    rw [show (qShut S n).2.1 g j = _ from qShut_G n g j]
    split
    · rename_i q
      rcases q.2 with rfl | rfl | rfl
      · exact (h g).1.symm
      · exact (h g).2.1.symm
      · exact (h g).2.2.symm
    · rfl
  · induction n with
    | zero => rfl
    | succ n ih => exact ih
theorem qShut_tail {S : zS} {n : Nat} (h : ∀ g, n ≤ g → ∀ j, sG S g j = 0) (k : Nat) : qShut S (n + k) = qShut S n := by
  refine Prod.ext ((qShut_X (n + k)).trans (qShut_X n).symm) (Prod.ext ?_ ?_)
  · funext g j
    rw [show (qShut S (n + k)).2.1 g j = _ from qShut_G (n + k) g j, show (qShut S n).2.1 g j = _ from qShut_G n g j]
    by_cases q : n ≤ g
    · rw [h g q j]; split <;> split <;> rfl
    · by_cases c : j = 1 ∨ j = 2 ∨ j = 3
      · rw [if_pos ⟨by omega, c⟩, if_pos ⟨by omega, c⟩]
      · rw [if_neg (fun z => c z.2), if_neg (fun z => c z.2)]
  · have e : ∀ n, (qShut S n).2.2 = S.2.2 := by
      intro n
      induction n with
      | zero => rfl
      | succ n ih => exact ih
    rw [e, e]
set_option maxRecDepth 20000 in
theorem zl2_X12_tick {l : Launch} {D : va_G} {b0 : Nat} {tA : Nat → ClassId} {sa sv : Nat → Nat} {K : zKt} {I : zI} {Qp : zI → Option AV → Prop} {Xp : String → zI → Prop} {p : Program} {e : Env} {s : State} {m : MethodId} {args : Array Value} {below : List Frame} {meth : Method} {c : Code} {A : Nat → Nat} {n7 m7 m9 t : Nat} {S : zS} {v2 : Int32} {T : zS}
    (X : zX p l e zrm_X12_tick s m args below meth c RX12 cX12_tick 5 (some .int) D b0 tA sa sv) (hnt : ∀ x ∈ c.exceptionTable.toList, False) (hS : zSh K A n7 m7) (hn6 : n7 ≤ 6) (hW : zWf T) (hk : ∀ J9 : zI, zgA I J9 A n7 m7 → zSt J9 A n7 m7 (qGates T 6) → zG p l e zrm_X12_tick s m args below meth c 5 D b0 tA sa 0 0 (zQ below D b0 tA sa K args s zrm_X12_tick Qp Xp) K 46 [some (vr (A (0)) 17), some (vi ((nI m9))), some (vi (v2)), some (vi ((nI t))), none] [] J9) :
    ∀ (n : Nat) (j : Nat) (J : zI), j ≤ n7 → zgA I J A n7 m7 → zSt J A n7 m7 (qGates T j) → n7 - j < n → zG p l e zrm_X12_tick s m args below meth c 5 D b0 tA sa 0 0 (zQ below D b0 tA sa K args s zrm_X12_tick Qp Xp) K 20 [some (vr (A (0)) 17), some (vi ((nI m9))), some (vi (v2)), some (vi ((nI t))), some (vi ((nI j)))] [] J := by
  intro n
  induction n with
  | zero => intro j J i0 i1 i2 i6; exact absurd i6 (Nat.not_lt_zero _)
  | succ n ih =>
    intro j J i0 i1 i2 i6
    have hA := hS.1
    refine zr_iload4 X dX12_tick_20 ?_
    refine zr_aload0 X dX12_tick_22 ?_
    refine zr_getI X zf_X12_22 rfl dX12_tick_23 ?_
    refine zr_eq (x2 := (nI n7)) ((i2.2.2.1 4 (by decide) (by decide)).trans i2.2.1.1) ?_
    refine zr_nicmp_ge X (j) (n7) (tgt := 46) (by omega) (by omega) dX12_tick_26 (by decide) (fun h1 => ?_) (fun h1 => ?_)
    · skip
      have hj : j = n7 := by omega
      subst hj
      refine zr_forget (lv2 := [some (vr (A (0)) 17), some (vi ((nI m9))), some (vi (v2)), some (vi ((nI t))), none]) (fun j9 v9 h9 => by rcases j9 with _ | _ | _ | _ | _ | _ | _ | _ | j9 <;> first | exact h9 | (simp at h9)) ?_
      have e6 : qGates T 6 = qGates T j := by (have := qGates_tail (n := j) hW (by rw [i2.ng]; omega) (6 - j); rwa [show j + (6 - j) = 6 by omega] at this)
      refine hk _ i1 ?_
      rw [e6]; exact i2
    · skip
      refine zr_aload0 X dX12_tick_29 ?_
      refine zr_aload0 X dX12_tick_30 ?_
      refine zr_getD (r := A (1)) X zf_X12_27 rfl (by decide) (hS.2.1.2.1) dX12_tick_31 ?_
      refine zr_iload4 X dX12_tick_34 ?_
      refine zr_aaldD (k := 20) (n := j) (r := A (4 + 5 * j)) X rfl (show _ < 6 from (by first | decide | omega)) ((hS.2.2.1 j (by omega)).1) dX12_tick_36 ?_
      refine zr_callV1 (rm9 := zrm_X12_serve) X hnt zm_X12_147 (by decide) (by decide) (by decide) (Nat.le_of_ble_eq_true rfl) dX12_tick_37 ?_
      refine zq_X12_serve (g := j) hS i2 (zWf_gates hW j) (by omega) ?_
      intro J9 hg10 hM11
      refine zr_iinc4 (v := (nI (j + 1))) X (show nI (j) + Int32.ofInt 1 = nI (j + 1) from nI_1 (j)) (by decide) rfl dX12_tick_40 ?_
      refine zr_goto (tgt := 20) X dX12_tick_43 (by decide) ?_
      refine zr_forget (lv2 := [some (vr (A (0)) 17), some (vi ((nI m9))), some (vi (v2)), some (vi ((nI t))), some (vi ((nI (j + 1))))]) (fun j9 v9 h9 => by rcases j9 with _ | _ | _ | _ | _ | _ | _ | _ | j9 <;> first | exact h9 | (simp at h9)) ?_
      exact ih (j + 1) _ (by omega) (by repeat (first | exact zgA.rf | assumption | refine zgA.put ?_ (by unfold zvd; omega) | refine zgA.two ?_ (by assumption) (by unfold zvd; omega) (by unfold zvd; omega) | refine zgA.tr ?_ (by assumption))) hM11 (by omega)
set_option maxRecDepth 20000 in
theorem zl_X12_tick {l : Launch} {D : va_G} {b0 : Nat} {tA : Nat → ClassId} {sa sv : Nat → Nat} {K : zKt} {I : zI} {Qp : zI → Option AV → Prop} {Xp : String → zI → Prop} {p : Program} {e : Env} {s : State} {m : MethodId} {args : Array Value} {below : List Frame} {meth : Method} {c : Code} {A : Nat → Nat} {n7 m7 m9 : Nat} {S : zS}
    (X : zX p l e zrm_X12_tick s m args below meth c RX12 cX12_tick 5 (some .int) D b0 tA sa sv) (hnt : ∀ x ∈ c.exceptionTable.toList, False) (hS : zSh K A n7 m7) (hM : zSt I A n7 m7 S) (hW : zWf S) (hm : m9 < 2 ^ 30) (k1 : ∀ J : zI, zgA I J A n7 m7 → zSt J A n7 m7 (qTicks S m9) → Qp J (some (vi (sX (qTicks S m9) 9 + sX (qTicks S m9) 10 - (sX S 9 + sX S 10))))) :
    ∀ (n : Nat) (t : Nat) (J : zI), t ≤ m9 → zgA I J A n7 m7 → zSt J A n7 m7 (qTicks S t) → m9 - t < n → zG p l e zrm_X12_tick s m args below meth c 5 D b0 tA sa 0 0 (zQ below D b0 tA sa K args s zrm_X12_tick Qp Xp) K 12 [some (vr (A (0)) 17), some (vi ((nI m9))), some (vi ((sX S 9 + sX S 10))), some (vi ((nI t))), none] [] J := by
  intro n
  induction n with
  | zero => intro t J i0 i1 i2 i6; exact absurd i6 (Nat.not_lt_zero _)
  | succ n ih =>
    intro t J i0 i1 i2 i6
    have hA := hS.1
    have hn6 := hM.1.1
    refine zr_iload3 X dX12_tick_12 ?_
    refine zr_iload1 X dX12_tick_13 ?_
    refine zr_nicmp_ge X (t) (m9) (tgt := 62) (by omega) (by omega) dX12_tick_14 (by decide) (fun h1 => ?_) (fun h1 => ?_)
    · skip
      refine zr_aload0 X dX12_tick_62 ?_
      refine zr_getI X zf_X12_44 rfl dX12_tick_63 ?_
      refine zr_eq (x2 := (sX (qTicks S t) 9)) (i2.2.2.1 9 (by decide) (by decide)) ?_
      refine zr_aload0 X dX12_tick_66 ?_
      refine zr_getI X zf_X12_47 rfl dX12_tick_67 ?_
      refine zr_eq (x2 := (sX (qTicks S t) 10)) (i2.2.2.1 10 (by decide) (by decide)) ?_
      refine zr_iadd X dX12_tick_70 ?_
      refine zr_iload2 X dX12_tick_71 ?_
      refine zr_isub X dX12_tick_72 ?_
      refine zr_iret X (by decide) (by decide) dX12_tick_73 ?_
      have hj : t = m9 := by omega
      subst hj
      exact k1 _ i1 i2
    · skip
      refine zr_iconst (v := (0 : Int32)) X dX12_tick_17 (by decide) ?_
      refine zr_istore4 X (by decide) rfl dX12_tick_18 ?_
      refine zl2_X12_tick (S := S) (T := qTicks S t) (I := J) X hnt hS hM.1.1 (zWf_ticks hW t) (fun J9 h1 h2 => ?_) (n7 + 1) 0 J (by omega) zgA.rf i2 (by omega)
      refine zr_aload0 X dX12_tick_46 ?_
      refine zr_dupR X dX12_tick_47 ?_
      refine zr_getI X zf_X12_16 rfl dX12_tick_48 ?_
      refine zr_eq (x2 := (sX (qGates (qTicks S t) 6) 2)) (h2.2.2.1 2 (by decide) (by decide)) ?_
      refine zr_iconst (v := (1 : Int32)) X dX12_tick_51 (by decide) ?_
      refine zr_iadd X dX12_tick_52 ?_
      refine zr_putI X zf_X12_16 rfl (Or.inl rfl) dX12_tick_53 ?_
      have hM_1 : zSt _ A n7 m7 (tX (qGates (qTicks S t) 6) 2 ((sX (qGates (qTicks S t) 6) 2) + (1 : Int32))) := zSt_X hA h2 (i := 2) (v := ((sX (qGates (qTicks S t) 6) 2) + (1 : Int32))) (by decide) (by decide)
      refine zr_iinc3 (v := (nI (t + 1))) X (show nI (t) + Int32.ofInt 1 = nI (t + 1) from nI_1 (t)) (by decide) rfl dX12_tick_56 ?_
      refine zr_goto (tgt := 12) X dX12_tick_59 (by decide) ?_
      exact ih (t + 1) _ (by omega) (by repeat (first | exact zgA.rf | assumption | refine zgA.put ?_ (by unfold zvd; omega) | refine zgA.two ?_ (by assumption) (by unfold zvd; omega) (by unfold zvd; omega) | refine zgA.tr ?_ (by assumption))) hM_1 (by omega)
set_option maxRecDepth 20000 in
theorem zp_X12_tick {l : Launch} {D : va_G} {b0 : Nat} {tA : Nat → ClassId} {sa sv : Nat → Nat} {K : zKt} {I : zI} {Qp : zI → Option AV → Prop} {Xp : String → zI → Prop} {A : Nat → Nat} {n7 m7 m9 : Nat} {S : zS}
    (hS : zSh K A n7 m7) (hM : zSt I A n7 m7 S) (hW : zWf S) (hm : m9 < 2 ^ 30) (k1 : ∀ J : zI, zgA I J A n7 m7 → zSt J A n7 m7 (qTicks S m9) → Qp J (some (vi (sX (qTicks S m9) 9 + sX (qTicks S m9) 10 - (sX S 9 + sX S 10))))) :
    zC l D b0 tA sa sv K yX12_tick (.code yX12_tick cX12_tick 5 (some .int)) zrm_X12_tick [vr (A (0)) 17, vi ((nI m9))] I Qp Xp := by
  have hA := hS.1
  have hn6 := hM.1.1
  have hm12 := hM.1.2
  refine zC_of (by decide +kernel) (Nat.le_of_ble_eq_true rfl) ?_
  intro p e s m args below meth c X hnt
  have X : zX p l e zrm_X12_tick s m args below meth c RX12 cX12_tick 5 (some .int) D b0 tA sa sv := X
  refine zr_lv (lv2 := [some (vr (A (0)) 17), some (vi ((nI m9))), none, none, none]) rfl ?_
  refine zr_aload0 X dX12_tick_0 ?_
  refine zr_getI X zf_X12_44 rfl dX12_tick_1 ?_
  refine zr_eq (x2 := (sX S 9)) (hM.2.2.1 9 (by decide) (by decide)) ?_
  refine zr_aload0 X dX12_tick_4 ?_
  refine zr_getI X zf_X12_47 rfl dX12_tick_5 ?_
  refine zr_eq (x2 := (sX S 10)) (hM.2.2.1 10 (by decide) (by decide)) ?_
  refine zr_iadd X dX12_tick_8 ?_
  refine zr_istore2 X (by decide) rfl dX12_tick_9 ?_
  refine zr_iconst (v := (0 : Int32)) X dX12_tick_10 (by decide) ?_
  refine zr_istore3 X (by decide) rfl dX12_tick_11 ?_
  exact zl_X12_tick X hnt hS hM hW hm k1 (m9 + 1) 0 I (by omega) zgA.rf hM (by omega)
abbrev zrm_X12_key : Room := { frames := 2, cells := 0, slots := 0, locals := 40 }
set_option maxRecDepth 20000 in
theorem zl0_X12_key {l : Launch} {D : va_G} {b0 : Nat} {tA : Nat → ClassId} {sa sv : Nat → Nat} {K : zKt} {I : zI} {Qp : zI → Option AV → Prop} {Xp : String → zI → Prop} {p : Program} {e : Env} {s : State} {m : MethodId} {args : Array Value} {below : List Frame} {meth : Method} {c : Code} {A : Nat → Nat} {n7 m7  : Nat} {S : zS} {v1 v2 : Int32}
    (X : zX p l e zrm_X12_key s m args below meth c RX12 cX12_key 4 (some .int) D b0 tA sa sv) (hnt : ∀ x ∈ c.exceptionTable.toList, False) (hS : zSh K A n7 m7) (hW : zWf S) (hp : zPanB (qKeyed S 0) = true) (hK9 : zKs (qKeyed S 0)) (k1 : ∀ J : zI, zgA I J A n7 m7 → zSt J A n7 m7 (qKey S 0) → Qp J (some (vi (zkeys (qKey S 0))))) :
    ∀ (n : Nat) (j : Nat) (J : zI), j ≤ n7 → zgA I J A n7 m7 → zSt J A n7 m7 (qShut (qKeyed S 0) j) → n7 - j < n → zG p l e zrm_X12_key s m args below meth c 4 D b0 tA sa 0 0 (zQ below D b0 tA sa K args s zrm_X12_key Qp Xp) K 38 [some (vr (A (0)) 17), some (vi (v1)), some (vi (v2)), some (vi ((nI j)))] [] J := by
  intro n
  induction n with
  | zero => intro j J i0 i1 i2 i6; exact absurd i6 (Nat.not_lt_zero _)
  | succ n ih =>
    intro j J i0 i1 i2 i6
    have hA := hS.1
    have hn6 := i2.1.1
    refine zr_iload3 X dX12_key_38 ?_
    refine zr_aload0 X dX12_key_39 ?_
    refine zr_getI X zf_X12_22 rfl dX12_key_40 ?_
    refine zr_eq (x2 := (nI n7)) ((i2.2.2.1 4 (by decide) (by decide)).trans i2.2.1.1) ?_
    refine zr_nicmp_ge X (j) (n7) (tgt := 61) (by omega) (by omega) dX12_key_43 (by decide) (fun h1 => ?_) (fun h1 => ?_)
    · skip
      refine zr_aload0 X dX12_key_61 ?_
      refine zr_callV0 (rm9 := zrm_X12_turned) X hnt zm_X12_83 (by decide) (by decide) (by decide) (Nat.le_of_ble_eq_true rfl) dX12_key_62 ?_
      refine zp_X12_turned hS i2 (by rw [qShut_X]; exact hK9) ?_
      refine zr_iret X (by decide) (by decide) dX12_key_65 ?_
      have hj : j = n7 := by omega
      subst hj
      have e9 : qKey S 0 = qShut (qKeyed S 0) j := by rw [qKey, if_pos hp]; have := qShut_tail (S := (qKeyed S 0)) (n := j) (fun g hg i => (hW.blank g (by have := i2.ng; rw [show zng (qShut (qKeyed S 0) j) = zng S by unfold zng; rw [qShut_X]; rfl] at this; omega)).1 i) (6 - j); rwa [show j + (6 - j) = 6 by have := i2.1.1; omega] at this
      rw [e9] at k1
      refine k1 J i1 i2
    · skip
      refine zr_aload0 X dX12_key_46 ?_
      refine zr_getD (r := A (1)) X zf_X12_27 rfl (by decide) (hS.2.1.2.1) dX12_key_47 ?_
      refine zr_iload3 X dX12_key_50 ?_
      refine zr_aaldD (k := 20) (n := j) (r := A (4 + 5 * j)) X rfl (show _ < 6 from (by first | decide | omega)) ((hS.2.2.1 j (by omega)).1) dX12_key_51 ?_
      refine zr_callV0 (rm9 := zrm_X9_close) X hnt zm_X12_91 (by decide) (by decide) (by decide) (Nat.le_of_ble_eq_true rfl) dX12_key_52 ?_
      refine zp_X9_close hS i2 (by omega) ?_
      intro J1 hg2 hM3
      refine zr_iinc3 (v := (nI (j + 1))) X (show nI (j) + Int32.ofInt 1 = nI (j + 1) from nI_1 (j)) (by decide) rfl dX12_key_55 ?_
      refine zr_goto (tgt := 38) X dX12_key_58 (by decide) ?_
      exact ih (j + 1) _ (by omega) (by repeat (first | exact zgA.rf | assumption | refine zgA.put ?_ (by unfold zvd; omega) | refine zgA.two ?_ (by assumption) (by unfold zvd; omega) (by unfold zvd; omega) | refine zgA.tr ?_ (by assumption))) hM3 (by omega)
set_option maxRecDepth 20000 in
theorem zp0_X12_key {l : Launch} {D : va_G} {b0 : Nat} {tA : Nat → ClassId} {sa sv : Nat → Nat} {K : zKt} {I : zI} {Qp : zI → Option AV → Prop} {Xp : String → zI → Prop} {A : Nat → Nat} {n7 m7 : Nat} {S : zS}
    (hS : zSh K A n7 m7) (hM : zSt I A n7 m7 S) (hW : zWf S) (k1 : ∀ J : zI, zgA I J A n7 m7 → zSt J A n7 m7 (qKey S 0) → Qp J (some (vi (zkeys (qKey S 0))))) :
    zC l D b0 tA sa sv K yX12_key (.code yX12_key cX12_key 4 (some .int)) zrm_X12_key [vr (A (0)) 17, vi ((0 : Int32))] I Qp Xp := by
  have hA := hS.1
  have hn6 := hM.1.1
  have hm12 := hM.1.2
  refine zC_of (by decide +kernel) (Nat.le_of_ble_eq_true rfl) ?_
  intro p e s m args below meth c X hnt
  have X : zX p l e zrm_X12_key s m args below meth c RX12 cX12_key 4 (some .int) D b0 tA sa sv := X
  refine zr_lv (lv2 := [some (vr (A (0)) 17), some (vi ((0 : Int32))), none, none]) rfl ?_
  refine zr_aload0 X dX12_key_0 ?_
  refine zr_callV0 (rm9 := zrm_X12_isPanic) X hnt zm_X12_87 (by decide) (by decide) (by decide) (Nat.le_of_ble_eq_true rfl) dX12_key_1 ?_
  refine zp_X12_isPanic hS hM hW.keys ?_ ?_
  · skip
    intro hp1
    refine zr_istore2 X (by decide) rfl dX12_key_4 ?_
    refine zr_aload0 X dX12_key_5 ?_
    refine zr_getD (r := A (3)) X zf_X12_40 rfl (by decide) (hS.2.1.2.2.2) dX12_key_6 ?_
    refine zr_iload1 X dX12_key_9 ?_
    refine zr_aload0 X dX12_key_10 ?_
    refine zr_getD (r := A (3)) X zf_X12_40 rfl (by decide) (hS.2.1.2.2.2) dX12_key_11 ?_
    refine zr_iload1 X dX12_key_14 ?_
    refine zr_baldZ (n := 0) X (by first | decide | omega) dX12_key_15 (fun hz2 => ?_)
    refine zr_eq (x2 := (sX S 6)) (hM.2.2.2.1 0 (by first | decide | omega)) ?_
    have hz2 : (sX S 6) = 0 ∨ (sX S 6) = 1 := hz2.imp (fun h => Eq.trans (Eq.symm (hM.2.2.2.1 0 (by first | decide | omega))) h) (fun h => Eq.trans (Eq.symm (hM.2.2.2.1 0 (by first | decide | omega))) h)
    refine zr_if_ne (tgt := 23) X dX12_key_16 (by decide) (fun h3 => ?_) (fun h3 => ?_)
    · skip
      refine zr_iconst (v := (0 : Int32)) X dX12_key_23 (by decide) ?_
      refine zr_bastZ (n := 0) X (by first | decide | omega) (by first | decide | assumption | (simp; done)) dX12_key_24 ?_
      have hM_1 : zSt _ A n7 m7 (tX S (6 + 0) (0 : Int32)) := zSt_K hA hM (k := 0) (v := (0 : Int32)) (by first | decide | omega)
      have hq9 : zSt _ A n7 m7 (qKeyed S 0) := cast (congrArg (zSt _ A n7 m7) (show _ = tX S (6 + 0) (1 - sX S (6 + 0)) by rw [show sX S (6 + 0) = 1 from (by assumption : sX S 6 = 0 ∨ sX S 6 = 1).resolve_left h3]; rfl)) hM_1
      have hK9 : zKs (qKeyed S 0) := zKs_keyed hW.keys
      refine zr_aload0 X dX12_key_25 ?_
      refine zr_callV0 (rm9 := zrm_X12_isPanic) X hnt zm_X12_87 (by decide) (by decide) (by decide) (Nat.le_of_ble_eq_true rfl) dX12_key_26 ?_
      refine zp_X12_isPanic hS hq9 hK9 ?_ ?_
      · skip
        intro hp4
        refine zr_if_eq (tgt := 61) X dX12_key_29 (by decide) (fun h => absurd h (by decide)) (fun _ => ?_)
        refine zr_iload2 X dX12_key_32 ?_
        refine zr_if_ne (tgt := 61) X dX12_key_33 (by decide) (fun _ => ?_) (fun h => absurd h (by decide))
        refine zr_aload0 X dX12_key_61 ?_
        refine zr_callV0 (rm9 := zrm_X12_turned) X hnt zm_X12_83 (by decide) (by decide) (by decide) (Nat.le_of_ble_eq_true rfl) dX12_key_62 ?_
        refine zp_X12_turned hS hq9 hK9 ?_
        refine zr_iret X (by decide) (by decide) dX12_key_65 ?_
        have e9 : qKey S 0 = (qKeyed S 0) := by rw [qKey, if_pos hp4]; exact qShut_id (fun g => by have h8 := hW.pan (zPanB_iff.mp hp1) g; exact ⟨(zPad_shut (hW.pad g) h8).1, h8, (zPad_shut (hW.pad g) h8).2⟩) 6
        rw [e9] at k1
        exact k1 _ (by repeat (first | exact zgA.rf | assumption | refine zgA.put ?_ (by unfold zvd; omega) | refine zgA.two ?_ (by assumption) (by unfold zvd; omega) (by unfold zvd; omega) | refine zgA.tr ?_ (by assumption))) hq9
      · skip
        intro hp4
        refine zr_if_eq (tgt := 61) X dX12_key_29 (by decide) (fun _ => ?_) (fun h => absurd h (by decide))
        refine zr_aload0 X dX12_key_61 ?_
        refine zr_callV0 (rm9 := zrm_X12_turned) X hnt zm_X12_83 (by decide) (by decide) (by decide) (Nat.le_of_ble_eq_true rfl) dX12_key_62 ?_
        refine zp_X12_turned hS hq9 hK9 ?_
        refine zr_iret X (by decide) (by decide) dX12_key_65 ?_
        have e9 : qKey S 0 = (qKeyed S 0) := if_neg hp4
        rw [e9] at k1
        exact k1 _ (by repeat (first | exact zgA.rf | assumption | refine zgA.put ?_ (by unfold zvd; omega) | refine zgA.two ?_ (by assumption) (by unfold zvd; omega) (by unfold zvd; omega) | refine zgA.tr ?_ (by assumption))) hq9
    · skip
      refine zr_iconst (v := (1 : Int32)) X dX12_key_19 (by decide) ?_
      refine zr_goto (tgt := 24) X dX12_key_20 (by decide) ?_
      refine zr_bastZ (n := 0) X (by first | decide | omega) (by first | decide | assumption | (simp; done)) dX12_key_24 ?_
      have hM_2 : zSt _ A n7 m7 (tX S (6 + 0) (1 : Int32)) := zSt_K hA hM (k := 0) (v := (1 : Int32)) (by first | decide | omega)
      have hq9 : zSt _ A n7 m7 (qKeyed S 0) := cast (congrArg (zSt _ A n7 m7) (show _ = tX S (6 + 0) (1 - sX S (6 + 0)) by rw [show sX S (6 + 0) = 0 from h3]; rfl)) hM_2
      have hK9 : zKs (qKeyed S 0) := zKs_keyed hW.keys
      refine zr_aload0 X dX12_key_25 ?_
      refine zr_callV0 (rm9 := zrm_X12_isPanic) X hnt zm_X12_87 (by decide) (by decide) (by decide) (Nat.le_of_ble_eq_true rfl) dX12_key_26 ?_
      refine zp_X12_isPanic hS hq9 hK9 ?_ ?_
      · skip
        intro hp5
        refine zr_if_eq (tgt := 61) X dX12_key_29 (by decide) (fun h => absurd h (by decide)) (fun _ => ?_)
        refine zr_iload2 X dX12_key_32 ?_
        refine zr_if_ne (tgt := 61) X dX12_key_33 (by decide) (fun _ => ?_) (fun h => absurd h (by decide))
        refine zr_aload0 X dX12_key_61 ?_
        refine zr_callV0 (rm9 := zrm_X12_turned) X hnt zm_X12_83 (by decide) (by decide) (by decide) (Nat.le_of_ble_eq_true rfl) dX12_key_62 ?_
        refine zp_X12_turned hS hq9 hK9 ?_
        refine zr_iret X (by decide) (by decide) dX12_key_65 ?_
        have e9 : qKey S 0 = (qKeyed S 0) := by rw [qKey, if_pos hp5]; exact qShut_id (fun g => by have h8 := hW.pan (zPanB_iff.mp hp1) g; exact ⟨(zPad_shut (hW.pad g) h8).1, h8, (zPad_shut (hW.pad g) h8).2⟩) 6
        rw [e9] at k1
        exact k1 _ (by repeat (first | exact zgA.rf | assumption | refine zgA.put ?_ (by unfold zvd; omega) | refine zgA.two ?_ (by assumption) (by unfold zvd; omega) (by unfold zvd; omega) | refine zgA.tr ?_ (by assumption))) hq9
      · skip
        intro hp5
        refine zr_if_eq (tgt := 61) X dX12_key_29 (by decide) (fun _ => ?_) (fun h => absurd h (by decide))
        refine zr_aload0 X dX12_key_61 ?_
        refine zr_callV0 (rm9 := zrm_X12_turned) X hnt zm_X12_83 (by decide) (by decide) (by decide) (Nat.le_of_ble_eq_true rfl) dX12_key_62 ?_
        refine zp_X12_turned hS hq9 hK9 ?_
        refine zr_iret X (by decide) (by decide) dX12_key_65 ?_
        have e9 : qKey S 0 = (qKeyed S 0) := if_neg hp5
        rw [e9] at k1
        exact k1 _ (by repeat (first | exact zgA.rf | assumption | refine zgA.put ?_ (by unfold zvd; omega) | refine zgA.two ?_ (by assumption) (by unfold zvd; omega) (by unfold zvd; omega) | refine zgA.tr ?_ (by assumption))) hq9
  · skip
    intro hp1
    refine zr_istore2 X (by decide) rfl dX12_key_4 ?_
    refine zr_aload0 X dX12_key_5 ?_
    refine zr_getD (r := A (3)) X zf_X12_40 rfl (by decide) (hS.2.1.2.2.2) dX12_key_6 ?_
    refine zr_iload1 X dX12_key_9 ?_
    refine zr_aload0 X dX12_key_10 ?_
    refine zr_getD (r := A (3)) X zf_X12_40 rfl (by decide) (hS.2.1.2.2.2) dX12_key_11 ?_
    refine zr_iload1 X dX12_key_14 ?_
    refine zr_baldZ (n := 0) X (by first | decide | omega) dX12_key_15 (fun hz6 => ?_)
    refine zr_eq (x2 := (sX S 6)) (hM.2.2.2.1 0 (by first | decide | omega)) ?_
    have hz6 : (sX S 6) = 0 ∨ (sX S 6) = 1 := hz6.imp (fun h => Eq.trans (Eq.symm (hM.2.2.2.1 0 (by first | decide | omega))) h) (fun h => Eq.trans (Eq.symm (hM.2.2.2.1 0 (by first | decide | omega))) h)
    refine zr_if_ne (tgt := 23) X dX12_key_16 (by decide) (fun h7 => ?_) (fun h7 => ?_)
    · skip
      refine zr_iconst (v := (0 : Int32)) X dX12_key_23 (by decide) ?_
      refine zr_bastZ (n := 0) X (by first | decide | omega) (by first | decide | assumption | (simp; done)) dX12_key_24 ?_
      have hM_3 : zSt _ A n7 m7 (tX S (6 + 0) (0 : Int32)) := zSt_K hA hM (k := 0) (v := (0 : Int32)) (by first | decide | omega)
      have hq9 : zSt _ A n7 m7 (qKeyed S 0) := cast (congrArg (zSt _ A n7 m7) (show _ = tX S (6 + 0) (1 - sX S (6 + 0)) by rw [show sX S (6 + 0) = 1 from (by assumption : sX S 6 = 0 ∨ sX S 6 = 1).resolve_left h7]; rfl)) hM_3
      have hK9 : zKs (qKeyed S 0) := zKs_keyed hW.keys
      refine zr_aload0 X dX12_key_25 ?_
      refine zr_callV0 (rm9 := zrm_X12_isPanic) X hnt zm_X12_87 (by decide) (by decide) (by decide) (Nat.le_of_ble_eq_true rfl) dX12_key_26 ?_
      refine zp_X12_isPanic hS hq9 hK9 ?_ ?_
      · skip
        intro hp8
        refine zr_if_eq (tgt := 61) X dX12_key_29 (by decide) (fun h => absurd h (by decide)) (fun _ => ?_)
        refine zr_iload2 X dX12_key_32 ?_
        refine zr_if_ne (tgt := 61) X dX12_key_33 (by decide) (fun h => absurd h (by decide)) (fun _ => ?_)
        refine zr_iconst (v := (0 : Int32)) X dX12_key_36 (by decide) ?_
        refine zr_istore3 X (by decide) rfl dX12_key_37 ?_
        refine zl0_X12_key (S := S) X hnt hS hW hp8 hK9 (fun J9 h1 h2 => k1 J9 (zgA.tr (by repeat (first | exact zgA.rf | assumption | refine zgA.put ?_ (by unfold zvd; omega) | refine zgA.two ?_ (by assumption) (by unfold zvd; omega) (by unfold zvd; omega) | refine zgA.tr ?_ (by assumption))) h1) h2) (n7 + 1) 0 _ (by omega) zgA.rf hq9 (by omega)
      · skip
        intro hp8
        refine zr_if_eq (tgt := 61) X dX12_key_29 (by decide) (fun _ => ?_) (fun h => absurd h (by decide))
        refine zr_aload0 X dX12_key_61 ?_
        refine zr_callV0 (rm9 := zrm_X12_turned) X hnt zm_X12_83 (by decide) (by decide) (by decide) (Nat.le_of_ble_eq_true rfl) dX12_key_62 ?_
        refine zp_X12_turned hS hq9 hK9 ?_
        refine zr_iret X (by decide) (by decide) dX12_key_65 ?_
        have e9 : qKey S 0 = (qKeyed S 0) := if_neg hp8
        rw [e9] at k1
        exact k1 _ (by repeat (first | exact zgA.rf | assumption | refine zgA.put ?_ (by unfold zvd; omega) | refine zgA.two ?_ (by assumption) (by unfold zvd; omega) (by unfold zvd; omega) | refine zgA.tr ?_ (by assumption))) hq9
    · skip
      refine zr_iconst (v := (1 : Int32)) X dX12_key_19 (by decide) ?_
      refine zr_goto (tgt := 24) X dX12_key_20 (by decide) ?_
      refine zr_bastZ (n := 0) X (by first | decide | omega) (by first | decide | assumption | (simp; done)) dX12_key_24 ?_
      have hM_4 : zSt _ A n7 m7 (tX S (6 + 0) (1 : Int32)) := zSt_K hA hM (k := 0) (v := (1 : Int32)) (by first | decide | omega)
      have hq9 : zSt _ A n7 m7 (qKeyed S 0) := cast (congrArg (zSt _ A n7 m7) (show _ = tX S (6 + 0) (1 - sX S (6 + 0)) by rw [show sX S (6 + 0) = 0 from h7]; rfl)) hM_4
      have hK9 : zKs (qKeyed S 0) := zKs_keyed hW.keys
      refine zr_aload0 X dX12_key_25 ?_
      refine zr_callV0 (rm9 := zrm_X12_isPanic) X hnt zm_X12_87 (by decide) (by decide) (by decide) (Nat.le_of_ble_eq_true rfl) dX12_key_26 ?_
      refine zp_X12_isPanic hS hq9 hK9 ?_ ?_
      · skip
        intro hp9
        refine zr_if_eq (tgt := 61) X dX12_key_29 (by decide) (fun h => absurd h (by decide)) (fun _ => ?_)
        refine zr_iload2 X dX12_key_32 ?_
        refine zr_if_ne (tgt := 61) X dX12_key_33 (by decide) (fun h => absurd h (by decide)) (fun _ => ?_)
        refine zr_iconst (v := (0 : Int32)) X dX12_key_36 (by decide) ?_
        refine zr_istore3 X (by decide) rfl dX12_key_37 ?_
        refine zl0_X12_key (S := S) X hnt hS hW hp9 hK9 (fun J9 h1 h2 => k1 J9 (zgA.tr (by repeat (first | exact zgA.rf | assumption | refine zgA.put ?_ (by unfold zvd; omega) | refine zgA.two ?_ (by assumption) (by unfold zvd; omega) (by unfold zvd; omega) | refine zgA.tr ?_ (by assumption))) h1) h2) (n7 + 1) 0 _ (by omega) zgA.rf hq9 (by omega)
      · skip
        intro hp9
        refine zr_if_eq (tgt := 61) X dX12_key_29 (by decide) (fun _ => ?_) (fun h => absurd h (by decide))
        refine zr_aload0 X dX12_key_61 ?_
        refine zr_callV0 (rm9 := zrm_X12_turned) X hnt zm_X12_83 (by decide) (by decide) (by decide) (Nat.le_of_ble_eq_true rfl) dX12_key_62 ?_
        refine zp_X12_turned hS hq9 hK9 ?_
        refine zr_iret X (by decide) (by decide) dX12_key_65 ?_
        have e9 : qKey S 0 = (qKeyed S 0) := if_neg hp9
        rw [e9] at k1
        exact k1 _ (by repeat (first | exact zgA.rf | assumption | refine zgA.put ?_ (by unfold zvd; omega) | refine zgA.two ?_ (by assumption) (by unfold zvd; omega) (by unfold zvd; omega) | refine zgA.tr ?_ (by assumption))) hq9
set_option maxRecDepth 20000 in
theorem zl1_X12_key {l : Launch} {D : va_G} {b0 : Nat} {tA : Nat → ClassId} {sa sv : Nat → Nat} {K : zKt} {I : zI} {Qp : zI → Option AV → Prop} {Xp : String → zI → Prop} {p : Program} {e : Env} {s : State} {m : MethodId} {args : Array Value} {below : List Frame} {meth : Method} {c : Code} {A : Nat → Nat} {n7 m7  : Nat} {S : zS} {v1 v2 : Int32}
    (X : zX p l e zrm_X12_key s m args below meth c RX12 cX12_key 4 (some .int) D b0 tA sa sv) (hnt : ∀ x ∈ c.exceptionTable.toList, False) (hS : zSh K A n7 m7) (hW : zWf S) (hp : zPanB (qKeyed S 1) = true) (hK9 : zKs (qKeyed S 1)) (k1 : ∀ J : zI, zgA I J A n7 m7 → zSt J A n7 m7 (qKey S 1) → Qp J (some (vi (zkeys (qKey S 1))))) :
    ∀ (n : Nat) (j : Nat) (J : zI), j ≤ n7 → zgA I J A n7 m7 → zSt J A n7 m7 (qShut (qKeyed S 1) j) → n7 - j < n → zG p l e zrm_X12_key s m args below meth c 4 D b0 tA sa 0 0 (zQ below D b0 tA sa K args s zrm_X12_key Qp Xp) K 38 [some (vr (A (0)) 17), some (vi (v1)), some (vi (v2)), some (vi ((nI j)))] [] J := by
  intro n
  induction n with
  | zero => intro j J i0 i1 i2 i6; exact absurd i6 (Nat.not_lt_zero _)
  | succ n ih =>
    intro j J i0 i1 i2 i6
    have hA := hS.1
    have hn6 := i2.1.1
    refine zr_iload3 X dX12_key_38 ?_
    refine zr_aload0 X dX12_key_39 ?_
    refine zr_getI X zf_X12_22 rfl dX12_key_40 ?_
    refine zr_eq (x2 := (nI n7)) ((i2.2.2.1 4 (by decide) (by decide)).trans i2.2.1.1) ?_
    refine zr_nicmp_ge X (j) (n7) (tgt := 61) (by omega) (by omega) dX12_key_43 (by decide) (fun h1 => ?_) (fun h1 => ?_)
    · skip
      refine zr_aload0 X dX12_key_61 ?_
      refine zr_callV0 (rm9 := zrm_X12_turned) X hnt zm_X12_83 (by decide) (by decide) (by decide) (Nat.le_of_ble_eq_true rfl) dX12_key_62 ?_
      refine zp_X12_turned hS i2 (by rw [qShut_X]; exact hK9) ?_
      refine zr_iret X (by decide) (by decide) dX12_key_65 ?_
      have hj : j = n7 := by omega
      subst hj
      have e9 : qKey S 1 = qShut (qKeyed S 1) j := by rw [qKey, if_pos hp]; have := qShut_tail (S := (qKeyed S 1)) (n := j) (fun g hg i => (hW.blank g (by have := i2.ng; rw [show zng (qShut (qKeyed S 1) j) = zng S by unfold zng; rw [qShut_X]; rfl] at this; omega)).1 i) (6 - j); rwa [show j + (6 - j) = 6 by have := i2.1.1; omega] at this
      rw [e9] at k1
      refine k1 J i1 i2
    · skip
      refine zr_aload0 X dX12_key_46 ?_
      refine zr_getD (r := A (1)) X zf_X12_27 rfl (by decide) (hS.2.1.2.1) dX12_key_47 ?_
      refine zr_iload3 X dX12_key_50 ?_
      refine zr_aaldD (k := 20) (n := j) (r := A (4 + 5 * j)) X rfl (show _ < 6 from (by first | decide | omega)) ((hS.2.2.1 j (by omega)).1) dX12_key_51 ?_
      refine zr_callV0 (rm9 := zrm_X9_close) X hnt zm_X12_91 (by decide) (by decide) (by decide) (Nat.le_of_ble_eq_true rfl) dX12_key_52 ?_
      refine zp_X9_close hS i2 (by omega) ?_
      intro J1 hg2 hM3
      refine zr_iinc3 (v := (nI (j + 1))) X (show nI (j) + Int32.ofInt 1 = nI (j + 1) from nI_1 (j)) (by decide) rfl dX12_key_55 ?_
      refine zr_goto (tgt := 38) X dX12_key_58 (by decide) ?_
      exact ih (j + 1) _ (by omega) (by repeat (first | exact zgA.rf | assumption | refine zgA.put ?_ (by unfold zvd; omega) | refine zgA.two ?_ (by assumption) (by unfold zvd; omega) (by unfold zvd; omega) | refine zgA.tr ?_ (by assumption))) hM3 (by omega)
set_option maxRecDepth 20000 in
theorem zp1_X12_key {l : Launch} {D : va_G} {b0 : Nat} {tA : Nat → ClassId} {sa sv : Nat → Nat} {K : zKt} {I : zI} {Qp : zI → Option AV → Prop} {Xp : String → zI → Prop} {A : Nat → Nat} {n7 m7 : Nat} {S : zS}
    (hS : zSh K A n7 m7) (hM : zSt I A n7 m7 S) (hW : zWf S) (k1 : ∀ J : zI, zgA I J A n7 m7 → zSt J A n7 m7 (qKey S 1) → Qp J (some (vi (zkeys (qKey S 1))))) :
    zC l D b0 tA sa sv K yX12_key (.code yX12_key cX12_key 4 (some .int)) zrm_X12_key [vr (A (0)) 17, vi ((1 : Int32))] I Qp Xp := by
  have hA := hS.1
  have hn6 := hM.1.1
  have hm12 := hM.1.2
  refine zC_of (by decide +kernel) (Nat.le_of_ble_eq_true rfl) ?_
  intro p e s m args below meth c X hnt
  have X : zX p l e zrm_X12_key s m args below meth c RX12 cX12_key 4 (some .int) D b0 tA sa sv := X
  refine zr_lv (lv2 := [some (vr (A (0)) 17), some (vi ((1 : Int32))), none, none]) rfl ?_
  refine zr_aload0 X dX12_key_0 ?_
  refine zr_callV0 (rm9 := zrm_X12_isPanic) X hnt zm_X12_87 (by decide) (by decide) (by decide) (Nat.le_of_ble_eq_true rfl) dX12_key_1 ?_
  refine zp_X12_isPanic hS hM hW.keys ?_ ?_
  · skip
    intro hp1
    refine zr_istore2 X (by decide) rfl dX12_key_4 ?_
    refine zr_aload0 X dX12_key_5 ?_
    refine zr_getD (r := A (3)) X zf_X12_40 rfl (by decide) (hS.2.1.2.2.2) dX12_key_6 ?_
    refine zr_iload1 X dX12_key_9 ?_
    refine zr_aload0 X dX12_key_10 ?_
    refine zr_getD (r := A (3)) X zf_X12_40 rfl (by decide) (hS.2.1.2.2.2) dX12_key_11 ?_
    refine zr_iload1 X dX12_key_14 ?_
    refine zr_baldZ (n := 1) X (by first | decide | omega) dX12_key_15 (fun hz2 => ?_)
    refine zr_eq (x2 := (sX S 7)) (hM.2.2.2.1 1 (by first | decide | omega)) ?_
    have hz2 : (sX S 7) = 0 ∨ (sX S 7) = 1 := hz2.imp (fun h => Eq.trans (Eq.symm (hM.2.2.2.1 1 (by first | decide | omega))) h) (fun h => Eq.trans (Eq.symm (hM.2.2.2.1 1 (by first | decide | omega))) h)
    refine zr_if_ne (tgt := 23) X dX12_key_16 (by decide) (fun h3 => ?_) (fun h3 => ?_)
    · skip
      refine zr_iconst (v := (0 : Int32)) X dX12_key_23 (by decide) ?_
      refine zr_bastZ (n := 1) X (by first | decide | omega) (by first | decide | assumption | (simp; done)) dX12_key_24 ?_
      have hM_1 : zSt _ A n7 m7 (tX S (6 + 1) (0 : Int32)) := zSt_K hA hM (k := 1) (v := (0 : Int32)) (by first | decide | omega)
      have hq9 : zSt _ A n7 m7 (qKeyed S 1) := cast (congrArg (zSt _ A n7 m7) (show _ = tX S (6 + 1) (1 - sX S (6 + 1)) by rw [show sX S (6 + 1) = 1 from (by assumption : sX S 7 = 0 ∨ sX S 7 = 1).resolve_left h3]; rfl)) hM_1
      have hK9 : zKs (qKeyed S 1) := zKs_keyed hW.keys
      refine zr_aload0 X dX12_key_25 ?_
      refine zr_callV0 (rm9 := zrm_X12_isPanic) X hnt zm_X12_87 (by decide) (by decide) (by decide) (Nat.le_of_ble_eq_true rfl) dX12_key_26 ?_
      refine zp_X12_isPanic hS hq9 hK9 ?_ ?_
      · skip
        intro hp4
        refine zr_if_eq (tgt := 61) X dX12_key_29 (by decide) (fun h => absurd h (by decide)) (fun _ => ?_)
        refine zr_iload2 X dX12_key_32 ?_
        refine zr_if_ne (tgt := 61) X dX12_key_33 (by decide) (fun _ => ?_) (fun h => absurd h (by decide))
        refine zr_aload0 X dX12_key_61 ?_
        refine zr_callV0 (rm9 := zrm_X12_turned) X hnt zm_X12_83 (by decide) (by decide) (by decide) (Nat.le_of_ble_eq_true rfl) dX12_key_62 ?_
        refine zp_X12_turned hS hq9 hK9 ?_
        refine zr_iret X (by decide) (by decide) dX12_key_65 ?_
        have e9 : qKey S 1 = (qKeyed S 1) := by rw [qKey, if_pos hp4]; exact qShut_id (fun g => by have h8 := hW.pan (zPanB_iff.mp hp1) g; exact ⟨(zPad_shut (hW.pad g) h8).1, h8, (zPad_shut (hW.pad g) h8).2⟩) 6
        rw [e9] at k1
        exact k1 _ (by repeat (first | exact zgA.rf | assumption | refine zgA.put ?_ (by unfold zvd; omega) | refine zgA.two ?_ (by assumption) (by unfold zvd; omega) (by unfold zvd; omega) | refine zgA.tr ?_ (by assumption))) hq9
      · skip
        intro hp4
        refine zr_if_eq (tgt := 61) X dX12_key_29 (by decide) (fun _ => ?_) (fun h => absurd h (by decide))
        refine zr_aload0 X dX12_key_61 ?_
        refine zr_callV0 (rm9 := zrm_X12_turned) X hnt zm_X12_83 (by decide) (by decide) (by decide) (Nat.le_of_ble_eq_true rfl) dX12_key_62 ?_
        refine zp_X12_turned hS hq9 hK9 ?_
        refine zr_iret X (by decide) (by decide) dX12_key_65 ?_
        have e9 : qKey S 1 = (qKeyed S 1) := if_neg hp4
        rw [e9] at k1
        exact k1 _ (by repeat (first | exact zgA.rf | assumption | refine zgA.put ?_ (by unfold zvd; omega) | refine zgA.two ?_ (by assumption) (by unfold zvd; omega) (by unfold zvd; omega) | refine zgA.tr ?_ (by assumption))) hq9
    · skip
      refine zr_iconst (v := (1 : Int32)) X dX12_key_19 (by decide) ?_
      refine zr_goto (tgt := 24) X dX12_key_20 (by decide) ?_
      refine zr_bastZ (n := 1) X (by first | decide | omega) (by first | decide | assumption | (simp; done)) dX12_key_24 ?_
      have hM_2 : zSt _ A n7 m7 (tX S (6 + 1) (1 : Int32)) := zSt_K hA hM (k := 1) (v := (1 : Int32)) (by first | decide | omega)
      have hq9 : zSt _ A n7 m7 (qKeyed S 1) := cast (congrArg (zSt _ A n7 m7) (show _ = tX S (6 + 1) (1 - sX S (6 + 1)) by rw [show sX S (6 + 1) = 0 from h3]; rfl)) hM_2
      have hK9 : zKs (qKeyed S 1) := zKs_keyed hW.keys
      refine zr_aload0 X dX12_key_25 ?_
      refine zr_callV0 (rm9 := zrm_X12_isPanic) X hnt zm_X12_87 (by decide) (by decide) (by decide) (Nat.le_of_ble_eq_true rfl) dX12_key_26 ?_
      refine zp_X12_isPanic hS hq9 hK9 ?_ ?_
      · skip
        intro hp5
        refine zr_if_eq (tgt := 61) X dX12_key_29 (by decide) (fun h => absurd h (by decide)) (fun _ => ?_)
        refine zr_iload2 X dX12_key_32 ?_
        refine zr_if_ne (tgt := 61) X dX12_key_33 (by decide) (fun _ => ?_) (fun h => absurd h (by decide))
        refine zr_aload0 X dX12_key_61 ?_
        refine zr_callV0 (rm9 := zrm_X12_turned) X hnt zm_X12_83 (by decide) (by decide) (by decide) (Nat.le_of_ble_eq_true rfl) dX12_key_62 ?_
        refine zp_X12_turned hS hq9 hK9 ?_
        refine zr_iret X (by decide) (by decide) dX12_key_65 ?_
        have e9 : qKey S 1 = (qKeyed S 1) := by rw [qKey, if_pos hp5]; exact qShut_id (fun g => by have h8 := hW.pan (zPanB_iff.mp hp1) g; exact ⟨(zPad_shut (hW.pad g) h8).1, h8, (zPad_shut (hW.pad g) h8).2⟩) 6
        rw [e9] at k1
        exact k1 _ (by repeat (first | exact zgA.rf | assumption | refine zgA.put ?_ (by unfold zvd; omega) | refine zgA.two ?_ (by assumption) (by unfold zvd; omega) (by unfold zvd; omega) | refine zgA.tr ?_ (by assumption))) hq9
      · skip
        intro hp5
        refine zr_if_eq (tgt := 61) X dX12_key_29 (by decide) (fun _ => ?_) (fun h => absurd h (by decide))
        refine zr_aload0 X dX12_key_61 ?_
        refine zr_callV0 (rm9 := zrm_X12_turned) X hnt zm_X12_83 (by decide) (by decide) (by decide) (Nat.le_of_ble_eq_true rfl) dX12_key_62 ?_
        refine zp_X12_turned hS hq9 hK9 ?_
        refine zr_iret X (by decide) (by decide) dX12_key_65 ?_
        have e9 : qKey S 1 = (qKeyed S 1) := if_neg hp5
        rw [e9] at k1
        exact k1 _ (by repeat (first | exact zgA.rf | assumption | refine zgA.put ?_ (by unfold zvd; omega) | refine zgA.two ?_ (by assumption) (by unfold zvd; omega) (by unfold zvd; omega) | refine zgA.tr ?_ (by assumption))) hq9
  · skip
    intro hp1
    refine zr_istore2 X (by decide) rfl dX12_key_4 ?_
    refine zr_aload0 X dX12_key_5 ?_
    refine zr_getD (r := A (3)) X zf_X12_40 rfl (by decide) (hS.2.1.2.2.2) dX12_key_6 ?_
    refine zr_iload1 X dX12_key_9 ?_
    refine zr_aload0 X dX12_key_10 ?_
    refine zr_getD (r := A (3)) X zf_X12_40 rfl (by decide) (hS.2.1.2.2.2) dX12_key_11 ?_
    refine zr_iload1 X dX12_key_14 ?_
    refine zr_baldZ (n := 1) X (by first | decide | omega) dX12_key_15 (fun hz6 => ?_)
    refine zr_eq (x2 := (sX S 7)) (hM.2.2.2.1 1 (by first | decide | omega)) ?_
    have hz6 : (sX S 7) = 0 ∨ (sX S 7) = 1 := hz6.imp (fun h => Eq.trans (Eq.symm (hM.2.2.2.1 1 (by first | decide | omega))) h) (fun h => Eq.trans (Eq.symm (hM.2.2.2.1 1 (by first | decide | omega))) h)
    refine zr_if_ne (tgt := 23) X dX12_key_16 (by decide) (fun h7 => ?_) (fun h7 => ?_)
    · skip
      refine zr_iconst (v := (0 : Int32)) X dX12_key_23 (by decide) ?_
      refine zr_bastZ (n := 1) X (by first | decide | omega) (by first | decide | assumption | (simp; done)) dX12_key_24 ?_
      have hM_3 : zSt _ A n7 m7 (tX S (6 + 1) (0 : Int32)) := zSt_K hA hM (k := 1) (v := (0 : Int32)) (by first | decide | omega)
      have hq9 : zSt _ A n7 m7 (qKeyed S 1) := cast (congrArg (zSt _ A n7 m7) (show _ = tX S (6 + 1) (1 - sX S (6 + 1)) by rw [show sX S (6 + 1) = 1 from (by assumption : sX S 7 = 0 ∨ sX S 7 = 1).resolve_left h7]; rfl)) hM_3
      have hK9 : zKs (qKeyed S 1) := zKs_keyed hW.keys
      refine zr_aload0 X dX12_key_25 ?_
      refine zr_callV0 (rm9 := zrm_X12_isPanic) X hnt zm_X12_87 (by decide) (by decide) (by decide) (Nat.le_of_ble_eq_true rfl) dX12_key_26 ?_
      refine zp_X12_isPanic hS hq9 hK9 ?_ ?_
      · skip
        intro hp8
        refine zr_if_eq (tgt := 61) X dX12_key_29 (by decide) (fun h => absurd h (by decide)) (fun _ => ?_)
        refine zr_iload2 X dX12_key_32 ?_
        refine zr_if_ne (tgt := 61) X dX12_key_33 (by decide) (fun h => absurd h (by decide)) (fun _ => ?_)
        refine zr_iconst (v := (0 : Int32)) X dX12_key_36 (by decide) ?_
        refine zr_istore3 X (by decide) rfl dX12_key_37 ?_
        refine zl1_X12_key (S := S) X hnt hS hW hp8 hK9 (fun J9 h1 h2 => k1 J9 (zgA.tr (by repeat (first | exact zgA.rf | assumption | refine zgA.put ?_ (by unfold zvd; omega) | refine zgA.two ?_ (by assumption) (by unfold zvd; omega) (by unfold zvd; omega) | refine zgA.tr ?_ (by assumption))) h1) h2) (n7 + 1) 0 _ (by omega) zgA.rf hq9 (by omega)
      · skip
        intro hp8
        refine zr_if_eq (tgt := 61) X dX12_key_29 (by decide) (fun _ => ?_) (fun h => absurd h (by decide))
        refine zr_aload0 X dX12_key_61 ?_
        refine zr_callV0 (rm9 := zrm_X12_turned) X hnt zm_X12_83 (by decide) (by decide) (by decide) (Nat.le_of_ble_eq_true rfl) dX12_key_62 ?_
        refine zp_X12_turned hS hq9 hK9 ?_
        refine zr_iret X (by decide) (by decide) dX12_key_65 ?_
        have e9 : qKey S 1 = (qKeyed S 1) := if_neg hp8
        rw [e9] at k1
        exact k1 _ (by repeat (first | exact zgA.rf | assumption | refine zgA.put ?_ (by unfold zvd; omega) | refine zgA.two ?_ (by assumption) (by unfold zvd; omega) (by unfold zvd; omega) | refine zgA.tr ?_ (by assumption))) hq9
    · skip
      refine zr_iconst (v := (1 : Int32)) X dX12_key_19 (by decide) ?_
      refine zr_goto (tgt := 24) X dX12_key_20 (by decide) ?_
      refine zr_bastZ (n := 1) X (by first | decide | omega) (by first | decide | assumption | (simp; done)) dX12_key_24 ?_
      have hM_4 : zSt _ A n7 m7 (tX S (6 + 1) (1 : Int32)) := zSt_K hA hM (k := 1) (v := (1 : Int32)) (by first | decide | omega)
      have hq9 : zSt _ A n7 m7 (qKeyed S 1) := cast (congrArg (zSt _ A n7 m7) (show _ = tX S (6 + 1) (1 - sX S (6 + 1)) by rw [show sX S (6 + 1) = 0 from h7]; rfl)) hM_4
      have hK9 : zKs (qKeyed S 1) := zKs_keyed hW.keys
      refine zr_aload0 X dX12_key_25 ?_
      refine zr_callV0 (rm9 := zrm_X12_isPanic) X hnt zm_X12_87 (by decide) (by decide) (by decide) (Nat.le_of_ble_eq_true rfl) dX12_key_26 ?_
      refine zp_X12_isPanic hS hq9 hK9 ?_ ?_
      · skip
        intro hp9
        refine zr_if_eq (tgt := 61) X dX12_key_29 (by decide) (fun h => absurd h (by decide)) (fun _ => ?_)
        refine zr_iload2 X dX12_key_32 ?_
        refine zr_if_ne (tgt := 61) X dX12_key_33 (by decide) (fun h => absurd h (by decide)) (fun _ => ?_)
        refine zr_iconst (v := (0 : Int32)) X dX12_key_36 (by decide) ?_
        refine zr_istore3 X (by decide) rfl dX12_key_37 ?_
        refine zl1_X12_key (S := S) X hnt hS hW hp9 hK9 (fun J9 h1 h2 => k1 J9 (zgA.tr (by repeat (first | exact zgA.rf | assumption | refine zgA.put ?_ (by unfold zvd; omega) | refine zgA.two ?_ (by assumption) (by unfold zvd; omega) (by unfold zvd; omega) | refine zgA.tr ?_ (by assumption))) h1) h2) (n7 + 1) 0 _ (by omega) zgA.rf hq9 (by omega)
      · skip
        intro hp9
        refine zr_if_eq (tgt := 61) X dX12_key_29 (by decide) (fun _ => ?_) (fun h => absurd h (by decide))
        refine zr_aload0 X dX12_key_61 ?_
        refine zr_callV0 (rm9 := zrm_X12_turned) X hnt zm_X12_83 (by decide) (by decide) (by decide) (Nat.le_of_ble_eq_true rfl) dX12_key_62 ?_
        refine zp_X12_turned hS hq9 hK9 ?_
        refine zr_iret X (by decide) (by decide) dX12_key_65 ?_
        have e9 : qKey S 1 = (qKeyed S 1) := if_neg hp9
        rw [e9] at k1
        exact k1 _ (by repeat (first | exact zgA.rf | assumption | refine zgA.put ?_ (by unfold zvd; omega) | refine zgA.two ?_ (by assumption) (by unfold zvd; omega) (by unfold zvd; omega) | refine zgA.tr ?_ (by assumption))) hq9
set_option maxRecDepth 20000 in
theorem zl2_X12_key {l : Launch} {D : va_G} {b0 : Nat} {tA : Nat → ClassId} {sa sv : Nat → Nat} {K : zKt} {I : zI} {Qp : zI → Option AV → Prop} {Xp : String → zI → Prop} {p : Program} {e : Env} {s : State} {m : MethodId} {args : Array Value} {below : List Frame} {meth : Method} {c : Code} {A : Nat → Nat} {n7 m7  : Nat} {S : zS} {v1 v2 : Int32}
    (X : zX p l e zrm_X12_key s m args below meth c RX12 cX12_key 4 (some .int) D b0 tA sa sv) (hnt : ∀ x ∈ c.exceptionTable.toList, False) (hS : zSh K A n7 m7) (hW : zWf S) (hp : zPanB (qKeyed S 2) = true) (hK9 : zKs (qKeyed S 2)) (k1 : ∀ J : zI, zgA I J A n7 m7 → zSt J A n7 m7 (qKey S 2) → Qp J (some (vi (zkeys (qKey S 2))))) :
    ∀ (n : Nat) (j : Nat) (J : zI), j ≤ n7 → zgA I J A n7 m7 → zSt J A n7 m7 (qShut (qKeyed S 2) j) → n7 - j < n → zG p l e zrm_X12_key s m args below meth c 4 D b0 tA sa 0 0 (zQ below D b0 tA sa K args s zrm_X12_key Qp Xp) K 38 [some (vr (A (0)) 17), some (vi (v1)), some (vi (v2)), some (vi ((nI j)))] [] J := by
  intro n
  induction n with
  | zero => intro j J i0 i1 i2 i6; exact absurd i6 (Nat.not_lt_zero _)
  | succ n ih =>
    intro j J i0 i1 i2 i6
    have hA := hS.1
    have hn6 := i2.1.1
    refine zr_iload3 X dX12_key_38 ?_
    refine zr_aload0 X dX12_key_39 ?_
    refine zr_getI X zf_X12_22 rfl dX12_key_40 ?_
    refine zr_eq (x2 := (nI n7)) ((i2.2.2.1 4 (by decide) (by decide)).trans i2.2.1.1) ?_
    refine zr_nicmp_ge X (j) (n7) (tgt := 61) (by omega) (by omega) dX12_key_43 (by decide) (fun h1 => ?_) (fun h1 => ?_)
    · skip
      refine zr_aload0 X dX12_key_61 ?_
      refine zr_callV0 (rm9 := zrm_X12_turned) X hnt zm_X12_83 (by decide) (by decide) (by decide) (Nat.le_of_ble_eq_true rfl) dX12_key_62 ?_
      refine zp_X12_turned hS i2 (by rw [qShut_X]; exact hK9) ?_
      refine zr_iret X (by decide) (by decide) dX12_key_65 ?_
      have hj : j = n7 := by omega
      subst hj
      have e9 : qKey S 2 = qShut (qKeyed S 2) j := by rw [qKey, if_pos hp]; have := qShut_tail (S := (qKeyed S 2)) (n := j) (fun g hg i => (hW.blank g (by have := i2.ng; rw [show zng (qShut (qKeyed S 2) j) = zng S by unfold zng; rw [qShut_X]; rfl] at this; omega)).1 i) (6 - j); rwa [show j + (6 - j) = 6 by have := i2.1.1; omega] at this
      rw [e9] at k1
      refine k1 J i1 i2
    · skip
      refine zr_aload0 X dX12_key_46 ?_
      refine zr_getD (r := A (1)) X zf_X12_27 rfl (by decide) (hS.2.1.2.1) dX12_key_47 ?_
      refine zr_iload3 X dX12_key_50 ?_
      refine zr_aaldD (k := 20) (n := j) (r := A (4 + 5 * j)) X rfl (show _ < 6 from (by first | decide | omega)) ((hS.2.2.1 j (by omega)).1) dX12_key_51 ?_
      refine zr_callV0 (rm9 := zrm_X9_close) X hnt zm_X12_91 (by decide) (by decide) (by decide) (Nat.le_of_ble_eq_true rfl) dX12_key_52 ?_
      refine zp_X9_close hS i2 (by omega) ?_
      intro J1 hg2 hM3
      refine zr_iinc3 (v := (nI (j + 1))) X (show nI (j) + Int32.ofInt 1 = nI (j + 1) from nI_1 (j)) (by decide) rfl dX12_key_55 ?_
      refine zr_goto (tgt := 38) X dX12_key_58 (by decide) ?_
      exact ih (j + 1) _ (by omega) (by repeat (first | exact zgA.rf | assumption | refine zgA.put ?_ (by unfold zvd; omega) | refine zgA.two ?_ (by assumption) (by unfold zvd; omega) (by unfold zvd; omega) | refine zgA.tr ?_ (by assumption))) hM3 (by omega)
set_option maxRecDepth 20000 in
theorem zp2_X12_key {l : Launch} {D : va_G} {b0 : Nat} {tA : Nat → ClassId} {sa sv : Nat → Nat} {K : zKt} {I : zI} {Qp : zI → Option AV → Prop} {Xp : String → zI → Prop} {A : Nat → Nat} {n7 m7 : Nat} {S : zS}
    (hS : zSh K A n7 m7) (hM : zSt I A n7 m7 S) (hW : zWf S) (k1 : ∀ J : zI, zgA I J A n7 m7 → zSt J A n7 m7 (qKey S 2) → Qp J (some (vi (zkeys (qKey S 2))))) :
    zC l D b0 tA sa sv K yX12_key (.code yX12_key cX12_key 4 (some .int)) zrm_X12_key [vr (A (0)) 17, vi ((2 : Int32))] I Qp Xp := by
  have hA := hS.1
  have hn6 := hM.1.1
  have hm12 := hM.1.2
  refine zC_of (by decide +kernel) (Nat.le_of_ble_eq_true rfl) ?_
  intro p e s m args below meth c X hnt
  have X : zX p l e zrm_X12_key s m args below meth c RX12 cX12_key 4 (some .int) D b0 tA sa sv := X
  refine zr_lv (lv2 := [some (vr (A (0)) 17), some (vi ((2 : Int32))), none, none]) rfl ?_
  refine zr_aload0 X dX12_key_0 ?_
  refine zr_callV0 (rm9 := zrm_X12_isPanic) X hnt zm_X12_87 (by decide) (by decide) (by decide) (Nat.le_of_ble_eq_true rfl) dX12_key_1 ?_
  refine zp_X12_isPanic hS hM hW.keys ?_ ?_
  · skip
    intro hp1
    refine zr_istore2 X (by decide) rfl dX12_key_4 ?_
    refine zr_aload0 X dX12_key_5 ?_
    refine zr_getD (r := A (3)) X zf_X12_40 rfl (by decide) (hS.2.1.2.2.2) dX12_key_6 ?_
    refine zr_iload1 X dX12_key_9 ?_
    refine zr_aload0 X dX12_key_10 ?_
    refine zr_getD (r := A (3)) X zf_X12_40 rfl (by decide) (hS.2.1.2.2.2) dX12_key_11 ?_
    refine zr_iload1 X dX12_key_14 ?_
    refine zr_baldZ (n := 2) X (by first | decide | omega) dX12_key_15 (fun hz2 => ?_)
    refine zr_eq (x2 := (sX S 8)) (hM.2.2.2.1 2 (by first | decide | omega)) ?_
    have hz2 : (sX S 8) = 0 ∨ (sX S 8) = 1 := hz2.imp (fun h => Eq.trans (Eq.symm (hM.2.2.2.1 2 (by first | decide | omega))) h) (fun h => Eq.trans (Eq.symm (hM.2.2.2.1 2 (by first | decide | omega))) h)
    refine zr_if_ne (tgt := 23) X dX12_key_16 (by decide) (fun h3 => ?_) (fun h3 => ?_)
    · skip
      refine zr_iconst (v := (0 : Int32)) X dX12_key_23 (by decide) ?_
      refine zr_bastZ (n := 2) X (by first | decide | omega) (by first | decide | assumption | (simp; done)) dX12_key_24 ?_
      have hM_1 : zSt _ A n7 m7 (tX S (6 + 2) (0 : Int32)) := zSt_K hA hM (k := 2) (v := (0 : Int32)) (by first | decide | omega)
      have hq9 : zSt _ A n7 m7 (qKeyed S 2) := cast (congrArg (zSt _ A n7 m7) (show _ = tX S (6 + 2) (1 - sX S (6 + 2)) by rw [show sX S (6 + 2) = 1 from (by assumption : sX S 8 = 0 ∨ sX S 8 = 1).resolve_left h3]; rfl)) hM_1
      have hK9 : zKs (qKeyed S 2) := zKs_keyed hW.keys
      refine zr_aload0 X dX12_key_25 ?_
      refine zr_callV0 (rm9 := zrm_X12_isPanic) X hnt zm_X12_87 (by decide) (by decide) (by decide) (Nat.le_of_ble_eq_true rfl) dX12_key_26 ?_
      refine zp_X12_isPanic hS hq9 hK9 ?_ ?_
      · skip
        intro hp4
        refine zr_if_eq (tgt := 61) X dX12_key_29 (by decide) (fun h => absurd h (by decide)) (fun _ => ?_)
        refine zr_iload2 X dX12_key_32 ?_
        refine zr_if_ne (tgt := 61) X dX12_key_33 (by decide) (fun _ => ?_) (fun h => absurd h (by decide))
        refine zr_aload0 X dX12_key_61 ?_
        refine zr_callV0 (rm9 := zrm_X12_turned) X hnt zm_X12_83 (by decide) (by decide) (by decide) (Nat.le_of_ble_eq_true rfl) dX12_key_62 ?_
        refine zp_X12_turned hS hq9 hK9 ?_
        refine zr_iret X (by decide) (by decide) dX12_key_65 ?_
        have e9 : qKey S 2 = (qKeyed S 2) := by rw [qKey, if_pos hp4]; exact qShut_id (fun g => by have h8 := hW.pan (zPanB_iff.mp hp1) g; exact ⟨(zPad_shut (hW.pad g) h8).1, h8, (zPad_shut (hW.pad g) h8).2⟩) 6
        rw [e9] at k1
        exact k1 _ (by repeat (first | exact zgA.rf | assumption | refine zgA.put ?_ (by unfold zvd; omega) | refine zgA.two ?_ (by assumption) (by unfold zvd; omega) (by unfold zvd; omega) | refine zgA.tr ?_ (by assumption))) hq9
      · skip
        intro hp4
        refine zr_if_eq (tgt := 61) X dX12_key_29 (by decide) (fun _ => ?_) (fun h => absurd h (by decide))
        refine zr_aload0 X dX12_key_61 ?_
        refine zr_callV0 (rm9 := zrm_X12_turned) X hnt zm_X12_83 (by decide) (by decide) (by decide) (Nat.le_of_ble_eq_true rfl) dX12_key_62 ?_
        refine zp_X12_turned hS hq9 hK9 ?_
        refine zr_iret X (by decide) (by decide) dX12_key_65 ?_
        have e9 : qKey S 2 = (qKeyed S 2) := if_neg hp4
        rw [e9] at k1
        exact k1 _ (by repeat (first | exact zgA.rf | assumption | refine zgA.put ?_ (by unfold zvd; omega) | refine zgA.two ?_ (by assumption) (by unfold zvd; omega) (by unfold zvd; omega) | refine zgA.tr ?_ (by assumption))) hq9
    · skip
      refine zr_iconst (v := (1 : Int32)) X dX12_key_19 (by decide) ?_
      refine zr_goto (tgt := 24) X dX12_key_20 (by decide) ?_
      refine zr_bastZ (n := 2) X (by first | decide | omega) (by first | decide | assumption | (simp; done)) dX12_key_24 ?_
      have hM_2 : zSt _ A n7 m7 (tX S (6 + 2) (1 : Int32)) := zSt_K hA hM (k := 2) (v := (1 : Int32)) (by first | decide | omega)
      have hq9 : zSt _ A n7 m7 (qKeyed S 2) := cast (congrArg (zSt _ A n7 m7) (show _ = tX S (6 + 2) (1 - sX S (6 + 2)) by rw [show sX S (6 + 2) = 0 from h3]; rfl)) hM_2
      have hK9 : zKs (qKeyed S 2) := zKs_keyed hW.keys
      refine zr_aload0 X dX12_key_25 ?_
      refine zr_callV0 (rm9 := zrm_X12_isPanic) X hnt zm_X12_87 (by decide) (by decide) (by decide) (Nat.le_of_ble_eq_true rfl) dX12_key_26 ?_
      refine zp_X12_isPanic hS hq9 hK9 ?_ ?_
      · skip
        intro hp5
        refine zr_if_eq (tgt := 61) X dX12_key_29 (by decide) (fun h => absurd h (by decide)) (fun _ => ?_)
        refine zr_iload2 X dX12_key_32 ?_
        refine zr_if_ne (tgt := 61) X dX12_key_33 (by decide) (fun _ => ?_) (fun h => absurd h (by decide))
        refine zr_aload0 X dX12_key_61 ?_
        refine zr_callV0 (rm9 := zrm_X12_turned) X hnt zm_X12_83 (by decide) (by decide) (by decide) (Nat.le_of_ble_eq_true rfl) dX12_key_62 ?_
        refine zp_X12_turned hS hq9 hK9 ?_
        refine zr_iret X (by decide) (by decide) dX12_key_65 ?_
        have e9 : qKey S 2 = (qKeyed S 2) := by rw [qKey, if_pos hp5]; exact qShut_id (fun g => by have h8 := hW.pan (zPanB_iff.mp hp1) g; exact ⟨(zPad_shut (hW.pad g) h8).1, h8, (zPad_shut (hW.pad g) h8).2⟩) 6
        rw [e9] at k1
        exact k1 _ (by repeat (first | exact zgA.rf | assumption | refine zgA.put ?_ (by unfold zvd; omega) | refine zgA.two ?_ (by assumption) (by unfold zvd; omega) (by unfold zvd; omega) | refine zgA.tr ?_ (by assumption))) hq9
      · skip
        intro hp5
        refine zr_if_eq (tgt := 61) X dX12_key_29 (by decide) (fun _ => ?_) (fun h => absurd h (by decide))
        refine zr_aload0 X dX12_key_61 ?_
        refine zr_callV0 (rm9 := zrm_X12_turned) X hnt zm_X12_83 (by decide) (by decide) (by decide) (Nat.le_of_ble_eq_true rfl) dX12_key_62 ?_
        refine zp_X12_turned hS hq9 hK9 ?_
        refine zr_iret X (by decide) (by decide) dX12_key_65 ?_
        have e9 : qKey S 2 = (qKeyed S 2) := if_neg hp5
        rw [e9] at k1
        exact k1 _ (by repeat (first | exact zgA.rf | assumption | refine zgA.put ?_ (by unfold zvd; omega) | refine zgA.two ?_ (by assumption) (by unfold zvd; omega) (by unfold zvd; omega) | refine zgA.tr ?_ (by assumption))) hq9
  · skip
    intro hp1
    refine zr_istore2 X (by decide) rfl dX12_key_4 ?_
    refine zr_aload0 X dX12_key_5 ?_
    refine zr_getD (r := A (3)) X zf_X12_40 rfl (by decide) (hS.2.1.2.2.2) dX12_key_6 ?_
    refine zr_iload1 X dX12_key_9 ?_
    refine zr_aload0 X dX12_key_10 ?_
    refine zr_getD (r := A (3)) X zf_X12_40 rfl (by decide) (hS.2.1.2.2.2) dX12_key_11 ?_
    refine zr_iload1 X dX12_key_14 ?_
    refine zr_baldZ (n := 2) X (by first | decide | omega) dX12_key_15 (fun hz6 => ?_)
    refine zr_eq (x2 := (sX S 8)) (hM.2.2.2.1 2 (by first | decide | omega)) ?_
    have hz6 : (sX S 8) = 0 ∨ (sX S 8) = 1 := hz6.imp (fun h => Eq.trans (Eq.symm (hM.2.2.2.1 2 (by first | decide | omega))) h) (fun h => Eq.trans (Eq.symm (hM.2.2.2.1 2 (by first | decide | omega))) h)
    refine zr_if_ne (tgt := 23) X dX12_key_16 (by decide) (fun h7 => ?_) (fun h7 => ?_)
    · skip
      refine zr_iconst (v := (0 : Int32)) X dX12_key_23 (by decide) ?_
      refine zr_bastZ (n := 2) X (by first | decide | omega) (by first | decide | assumption | (simp; done)) dX12_key_24 ?_
      have hM_3 : zSt _ A n7 m7 (tX S (6 + 2) (0 : Int32)) := zSt_K hA hM (k := 2) (v := (0 : Int32)) (by first | decide | omega)
      have hq9 : zSt _ A n7 m7 (qKeyed S 2) := cast (congrArg (zSt _ A n7 m7) (show _ = tX S (6 + 2) (1 - sX S (6 + 2)) by rw [show sX S (6 + 2) = 1 from (by assumption : sX S 8 = 0 ∨ sX S 8 = 1).resolve_left h7]; rfl)) hM_3
      have hK9 : zKs (qKeyed S 2) := zKs_keyed hW.keys
      refine zr_aload0 X dX12_key_25 ?_
      refine zr_callV0 (rm9 := zrm_X12_isPanic) X hnt zm_X12_87 (by decide) (by decide) (by decide) (Nat.le_of_ble_eq_true rfl) dX12_key_26 ?_
      refine zp_X12_isPanic hS hq9 hK9 ?_ ?_
      · skip
        intro hp8
        refine zr_if_eq (tgt := 61) X dX12_key_29 (by decide) (fun h => absurd h (by decide)) (fun _ => ?_)
        refine zr_iload2 X dX12_key_32 ?_
        refine zr_if_ne (tgt := 61) X dX12_key_33 (by decide) (fun h => absurd h (by decide)) (fun _ => ?_)
        refine zr_iconst (v := (0 : Int32)) X dX12_key_36 (by decide) ?_
        refine zr_istore3 X (by decide) rfl dX12_key_37 ?_
        refine zl2_X12_key (S := S) X hnt hS hW hp8 hK9 (fun J9 h1 h2 => k1 J9 (zgA.tr (by repeat (first | exact zgA.rf | assumption | refine zgA.put ?_ (by unfold zvd; omega) | refine zgA.two ?_ (by assumption) (by unfold zvd; omega) (by unfold zvd; omega) | refine zgA.tr ?_ (by assumption))) h1) h2) (n7 + 1) 0 _ (by omega) zgA.rf hq9 (by omega)
      · skip
        intro hp8
        refine zr_if_eq (tgt := 61) X dX12_key_29 (by decide) (fun _ => ?_) (fun h => absurd h (by decide))
        refine zr_aload0 X dX12_key_61 ?_
        refine zr_callV0 (rm9 := zrm_X12_turned) X hnt zm_X12_83 (by decide) (by decide) (by decide) (Nat.le_of_ble_eq_true rfl) dX12_key_62 ?_
        refine zp_X12_turned hS hq9 hK9 ?_
        refine zr_iret X (by decide) (by decide) dX12_key_65 ?_
        have e9 : qKey S 2 = (qKeyed S 2) := if_neg hp8
        rw [e9] at k1
        exact k1 _ (by repeat (first | exact zgA.rf | assumption | refine zgA.put ?_ (by unfold zvd; omega) | refine zgA.two ?_ (by assumption) (by unfold zvd; omega) (by unfold zvd; omega) | refine zgA.tr ?_ (by assumption))) hq9
    · skip
      refine zr_iconst (v := (1 : Int32)) X dX12_key_19 (by decide) ?_
      refine zr_goto (tgt := 24) X dX12_key_20 (by decide) ?_
      refine zr_bastZ (n := 2) X (by first | decide | omega) (by first | decide | assumption | (simp; done)) dX12_key_24 ?_
      have hM_4 : zSt _ A n7 m7 (tX S (6 + 2) (1 : Int32)) := zSt_K hA hM (k := 2) (v := (1 : Int32)) (by first | decide | omega)
      have hq9 : zSt _ A n7 m7 (qKeyed S 2) := cast (congrArg (zSt _ A n7 m7) (show _ = tX S (6 + 2) (1 - sX S (6 + 2)) by rw [show sX S (6 + 2) = 0 from h7]; rfl)) hM_4
      have hK9 : zKs (qKeyed S 2) := zKs_keyed hW.keys
      refine zr_aload0 X dX12_key_25 ?_
      refine zr_callV0 (rm9 := zrm_X12_isPanic) X hnt zm_X12_87 (by decide) (by decide) (by decide) (Nat.le_of_ble_eq_true rfl) dX12_key_26 ?_
      refine zp_X12_isPanic hS hq9 hK9 ?_ ?_
      · skip
        intro hp9
        refine zr_if_eq (tgt := 61) X dX12_key_29 (by decide) (fun h => absurd h (by decide)) (fun _ => ?_)
        refine zr_iload2 X dX12_key_32 ?_
        refine zr_if_ne (tgt := 61) X dX12_key_33 (by decide) (fun h => absurd h (by decide)) (fun _ => ?_)
        refine zr_iconst (v := (0 : Int32)) X dX12_key_36 (by decide) ?_
        refine zr_istore3 X (by decide) rfl dX12_key_37 ?_
        refine zl2_X12_key (S := S) X hnt hS hW hp9 hK9 (fun J9 h1 h2 => k1 J9 (zgA.tr (by repeat (first | exact zgA.rf | assumption | refine zgA.put ?_ (by unfold zvd; omega) | refine zgA.two ?_ (by assumption) (by unfold zvd; omega) (by unfold zvd; omega) | refine zgA.tr ?_ (by assumption))) h1) h2) (n7 + 1) 0 _ (by omega) zgA.rf hq9 (by omega)
      · skip
        intro hp9
        refine zr_if_eq (tgt := 61) X dX12_key_29 (by decide) (fun _ => ?_) (fun h => absurd h (by decide))
        refine zr_aload0 X dX12_key_61 ?_
        refine zr_callV0 (rm9 := zrm_X12_turned) X hnt zm_X12_83 (by decide) (by decide) (by decide) (Nat.le_of_ble_eq_true rfl) dX12_key_62 ?_
        refine zp_X12_turned hS hq9 hK9 ?_
        refine zr_iret X (by decide) (by decide) dX12_key_65 ?_
        have e9 : qKey S 2 = (qKeyed S 2) := if_neg hp9
        rw [e9] at k1
        exact k1 _ (by repeat (first | exact zgA.rf | assumption | refine zgA.put ?_ (by unfold zvd; omega) | refine zgA.two ?_ (by assumption) (by unfold zvd; omega) (by unfold zvd; omega) | refine zgA.tr ?_ (by assumption))) hq9
abbrev zrm_X12_join : Room := { frames := 3, cells := 0, slots := 0, locals := 68 }
set_option maxRecDepth 20000 in
theorem znone0_X12_join {l : Launch} {D : va_G} {b0 : Nat} {tA : Nat → ClassId} {sa sv : Nat → Nat} {K : zKt} {I : zI} {Qp : zI → Option AV → Prop} {Xp : String → zI → Prop} {A : Nat → Nat} {n7 m7 g : Nat} {S : zS}
    (hS : zSh K A n7 m7) (hM : zSt I A n7 m7 S) (hW : zWf S) (hg : g < n7) (k1 : ∀ J : zI, zgA I J A n7 m7 → zSt J A n7 m7 (sJoin1 S g 0 0) → Qp J (some (vi (rJoin1 S g 0 0)))) :
    zC l D b0 tA sa sv K yX12_join (.code yX12_join cX12_join 5 (some .int)) zrm_X12_join [vr (A (0)) 17, vi ((nI g)), vi ((0 : Int32)), vi ((-1 : Int32))] I Qp Xp := by
  have hA := hS.1
  have hn6 := hM.1.1
  have hm12 := hM.1.2
  have hgn := hM.ng
  have hcm := hM.nc
  have hlen := hW.len
  refine zC_of (by decide +kernel) (Nat.le_of_ble_eq_true rfl) ?_
  intro p e s m args below meth c X hnt
  have X : zX p l e zrm_X12_join s m args below meth c RX12 cX12_join 5 (some .int) D b0 tA sa sv := X
  refine zr_lv (lv2 := [some (vr (A (0)) 17), some (vi ((nI g))), some (vi ((0 : Int32))), some (vi ((-1 : Int32))), none]) rfl ?_
  refine zr_aload0 X dX12_join_0 ?_
  refine zr_iload1 X dX12_join_1 ?_
  refine zr_iload2 X dX12_join_2 ?_
  refine zr_iload3 X dX12_join_3 ?_
  refine zr_callV3 (rm9 := zrm_X12_whyNot) X hnt zm_X12_164 (by decide) (by decide) (by decide) (Nat.le_of_ble_eq_true rfl) dX12_join_4 ?_
  refine znone0_X12_whyNot (g := g) hS hM hW (by omega) ?_; have hq5 := qWhy_lt (S := S) (g := g) (s := 0) (w := 0)
  refine zr_istore4 X (by decide) rfl dX12_join_7 ?_
  refine zr_iload4 X dX12_join_9 ?_
  refine zr_nif_le X ((qWhy S g 0 0)) (tgt := 28) (by omega) dX12_join_11 (by decide) (fun h1 => ?_) (fun h1 => ?_)
  · skip
    refine zr_aload0 X dX12_join_28 ?_
    refine zr_getD (r := A (1)) X zf_X12_27 rfl (by decide) (hS.2.1.2.1) dX12_join_29 ?_
    refine zr_iload1 X dX12_join_32 ?_
    refine zr_aaldD (k := 20) (n := g) (r := A (4 + 5 * g)) X rfl (show _ < 6 from (by first | decide | omega)) ((hS.2.2.1 g (by omega)).1) dX12_join_33 ?_
    refine zr_iload2 X dX12_join_34 ?_
    refine zr_callV1 (rm9 := zrm_X9_line) X hnt zm_X12_94 (by decide) (by decide) (by decide) (Nat.le_of_ble_eq_true rfl) dX12_join_35 ?_
    refine zp0_X9_line hS (by omega) ?_
    refine zr_iload3 X dX12_join_38 ?_
    refine zr_callV1 (rm9 := zrm_X10_add) X hnt zm_X12_168 (by decide) (by decide) (by decide) (Nat.le_of_ble_eq_true rfl) dX12_join_39 ?_
    refine zw_X10_add (w := (sL S g 0)) (x := 0) (hM.2.2.2.2.1 g (by omega)).2.1 ((hS.2.2.1 g (by omega)).2.2.2.1) (fun z => absurd (hA _ _ z) (by omega)) (by have := hlen g 0; omega) (by decide) ?_
    intro J1 hg2 hl3; have hM4 : zSt J1 A n7 m7 (tL S g 0 ((sL S g 0) ++ [0])) := zSt_L hA hM (show g < n7 by omega) (Or.inl ⟨rfl, rfl, rfl⟩) hg2 hl3
    refine zr_aload0 X dX12_join_42 ?_
    refine zr_getD (r := A (1)) X zf_X12_27 rfl (by decide) (hS.2.1.2.1) dX12_join_43 ?_
    refine zr_iload1 X dX12_join_46 ?_
    refine zr_aaldD (k := 20) (n := g) (r := A (4 + 5 * g)) X rfl (show _ < 6 from (by first | decide | omega)) ((hS.2.2.1 g (by omega)).1) dX12_join_47 ?_
    refine zr_iload2 X dX12_join_48 ?_
    refine zr_callV1 (rm9 := zrm_X9_line) X hnt zm_X12_94 (by decide) (by decide) (by decide) (Nat.le_of_ble_eq_true rfl) dX12_join_49 ?_
    refine zp0_X9_line hS (by omega) ?_
    refine zr_getI X zf_X12_108 rfl dX12_join_52 ?_
    refine zr_eq (x2 := (nI ((sL (tL S g 0 ((sL S g 0) ++ [0])) g 0).length))) ((hM4.2.2.2.2.1 g (by omega)).2.1.1) ?_
    refine zr_iret X (by decide) (by decide) dX12_join_55 ?_
    have h9 : qWhy S g 0 0 = 0 := by omega
    unfold sJoin1 rJoin1 at k1; rw [if_pos h9, if_pos h9] at k1
    rw [show (sL (tL S g 0 (sL S g 0 ++ [0])) g 0).length = (sL S g 0).length + 1 by rw [tL_L, if_pos ⟨rfl, rfl⟩, List.length_append]; rfl]
    exact k1 _ (by repeat (first | exact zgA.rf | assumption | refine zgA.put ?_ (by unfold zvd; omega) | refine zgA.two ?_ (by assumption) (by unfold zvd; omega) (by unfold zvd; omega) | refine zgA.tr ?_ (by assumption))) hM4
  · skip
    refine zr_aload0 X dX12_join_14 ?_
    refine zr_dupR X dX12_join_15 ?_
    refine zr_getI X zf_X12_56 rfl dX12_join_16 ?_
    refine zr_eq (x2 := (sX S 13)) (hM.2.2.1 13 (by decide) (by decide)) ?_
    refine zr_iconst (v := (1 : Int32)) X dX12_join_19 (by decide) ?_
    refine zr_iadd X dX12_join_20 ?_
    refine zr_putI X zf_X12_56 rfl (Or.inl rfl) dX12_join_21 ?_
    have hM_1 : zSt _ A n7 m7 (tX S 13 ((sX S 13) + (1 : Int32))) := zSt_X hA hM (i := 13) (v := ((sX S 13) + (1 : Int32))) (by decide) (by decide)
    refine zr_iload4 X dX12_join_24 ?_
    refine zr_ineg X dX12_join_26 ?_
    refine zr_iret X (by decide) (by decide) dX12_join_27 ?_
    have h9 : ¬ qWhy S g 0 0 = 0 := by omega
    unfold sJoin1 rJoin1 at k1; rw [if_neg h9, if_neg h9] at k1
    exact k1 _ (by repeat (first | exact zgA.rf | assumption | refine zgA.put ?_ (by unfold zvd; omega) | refine zgA.two ?_ (by assumption) (by unfold zvd; omega) (by unfold zvd; omega) | refine zgA.tr ?_ (by assumption))) hM_1
set_option maxRecDepth 20000 in
theorem zok0_X12_join {l : Launch} {D : va_G} {b0 : Nat} {tA : Nat → ClassId} {sa sv : Nat → Nat} {K : zKt} {I : zI} {Qp : zI → Option AV → Prop} {Xp : String → zI → Prop} {A : Nat → Nat} {n7 m7 g c9 : Nat} {S : zS}
    (hS : zSh K A n7 m7) (hM : zSt I A n7 m7 S) (hW : zWf S) (hg : g < n7) (hc : c9 < 12) (k1 : ∀ J : zI, zgA I J A n7 m7 → zSt J A n7 m7 (sJoin1 S g 0 (c9 + 1)) → Qp J (some (vi (rJoin1 S g 0 (c9 + 1))))) :
    zC l D b0 tA sa sv K yX12_join (.code yX12_join cX12_join 5 (some .int)) zrm_X12_join [vr (A (0)) 17, vi ((nI g)), vi ((0 : Int32)), vi ((nI c9))] I Qp Xp := by
  have hA := hS.1
  have hn6 := hM.1.1
  have hm12 := hM.1.2
  have hgn := hM.ng
  have hcm := hM.nc
  have hlen := hW.len
  refine zC_of (by decide +kernel) (Nat.le_of_ble_eq_true rfl) ?_
  intro p e s m args below meth c X hnt
  have X : zX p l e zrm_X12_join s m args below meth c RX12 cX12_join 5 (some .int) D b0 tA sa sv := X
  refine zr_lv (lv2 := [some (vr (A (0)) 17), some (vi ((nI g))), some (vi ((0 : Int32))), some (vi ((nI c9))), none]) rfl ?_
  refine zr_aload0 X dX12_join_0 ?_
  refine zr_iload1 X dX12_join_1 ?_
  refine zr_iload2 X dX12_join_2 ?_
  refine zr_iload3 X dX12_join_3 ?_
  refine zr_callV3 (rm9 := zrm_X12_whyNot) X hnt zm_X12_164 (by decide) (by decide) (by decide) (Nat.le_of_ble_eq_true rfl) dX12_join_4 ?_
  refine zok0_X12_whyNot (g := g) (c9 := c9) hS hM hW (by omega) (by omega) ?_; have hq5 := qWhy_lt (S := S) (g := g) (s := 0) (w := (c9 + 1))
  refine zr_istore4 X (by decide) rfl dX12_join_7 ?_
  refine zr_iload4 X dX12_join_9 ?_
  refine zr_nif_le X ((qWhy S g 0 (c9 + 1))) (tgt := 28) (by omega) dX12_join_11 (by decide) (fun h1 => ?_) (fun h1 => ?_)
  · skip
    refine zr_aload0 X dX12_join_28 ?_
    refine zr_getD (r := A (1)) X zf_X12_27 rfl (by decide) (hS.2.1.2.1) dX12_join_29 ?_
    refine zr_iload1 X dX12_join_32 ?_
    refine zr_aaldD (k := 20) (n := g) (r := A (4 + 5 * g)) X rfl (show _ < 6 from (by first | decide | omega)) ((hS.2.2.1 g (by omega)).1) dX12_join_33 ?_
    refine zr_iload2 X dX12_join_34 ?_
    refine zr_callV1 (rm9 := zrm_X9_line) X hnt zm_X12_94 (by decide) (by decide) (by decide) (Nat.le_of_ble_eq_true rfl) dX12_join_35 ?_
    refine zp0_X9_line hS (by omega) ?_
    refine zr_iload3 X dX12_join_38 ?_
    refine zr_callV1 (rm9 := zrm_X10_add) X hnt zm_X12_168 (by decide) (by decide) (by decide) (Nat.le_of_ble_eq_true rfl) dX12_join_39 ?_
    refine zw_X10_add (w := (sL S g 0)) (x := (c9 + 1)) (hM.2.2.2.2.1 g (by omega)).2.1 ((hS.2.2.1 g (by omega)).2.2.2.1) (fun z => absurd (hA _ _ z) (by omega)) (by have := hlen g 0; omega) (pk_sub (a := c9 + 1) (b := 1) (by omega)) ?_
    intro J1 hg2 hl3; have hM4 : zSt J1 A n7 m7 (tL S g 0 ((sL S g 0) ++ [(c9 + 1)])) := zSt_L hA hM (show g < n7 by omega) (Or.inl ⟨rfl, rfl, rfl⟩) hg2 hl3
    refine zr_aload0 X dX12_join_42 ?_
    refine zr_getD (r := A (1)) X zf_X12_27 rfl (by decide) (hS.2.1.2.1) dX12_join_43 ?_
    refine zr_iload1 X dX12_join_46 ?_
    refine zr_aaldD (k := 20) (n := g) (r := A (4 + 5 * g)) X rfl (show _ < 6 from (by first | decide | omega)) ((hS.2.2.1 g (by omega)).1) dX12_join_47 ?_
    refine zr_iload2 X dX12_join_48 ?_
    refine zr_callV1 (rm9 := zrm_X9_line) X hnt zm_X12_94 (by decide) (by decide) (by decide) (Nat.le_of_ble_eq_true rfl) dX12_join_49 ?_
    refine zp0_X9_line hS (by omega) ?_
    refine zr_getI X zf_X12_108 rfl dX12_join_52 ?_
    refine zr_eq (x2 := (nI ((sL (tL S g 0 ((sL S g 0) ++ [(c9 + 1)])) g 0).length))) ((hM4.2.2.2.2.1 g (by omega)).2.1.1) ?_
    refine zr_iret X (by decide) (by decide) dX12_join_55 ?_
    have h9 : qWhy S g 0 (c9 + 1) = 0 := by omega
    unfold sJoin1 rJoin1 at k1; rw [if_pos h9, if_pos h9] at k1
    rw [show (sL (tL S g 0 (sL S g 0 ++ [(c9 + 1)])) g 0).length = (sL S g 0).length + 1 by rw [tL_L, if_pos ⟨rfl, rfl⟩, List.length_append]; rfl]
    exact k1 _ (by repeat (first | exact zgA.rf | assumption | refine zgA.put ?_ (by unfold zvd; omega) | refine zgA.two ?_ (by assumption) (by unfold zvd; omega) (by unfold zvd; omega) | refine zgA.tr ?_ (by assumption))) hM4
  · skip
    refine zr_aload0 X dX12_join_14 ?_
    refine zr_dupR X dX12_join_15 ?_
    refine zr_getI X zf_X12_56 rfl dX12_join_16 ?_
    refine zr_eq (x2 := (sX S 13)) (hM.2.2.1 13 (by decide) (by decide)) ?_
    refine zr_iconst (v := (1 : Int32)) X dX12_join_19 (by decide) ?_
    refine zr_iadd X dX12_join_20 ?_
    refine zr_putI X zf_X12_56 rfl (Or.inl rfl) dX12_join_21 ?_
    have hM_1 : zSt _ A n7 m7 (tX S 13 ((sX S 13) + (1 : Int32))) := zSt_X hA hM (i := 13) (v := ((sX S 13) + (1 : Int32))) (by decide) (by decide)
    refine zr_iload4 X dX12_join_24 ?_
    refine zr_ineg X dX12_join_26 ?_
    refine zr_iret X (by decide) (by decide) dX12_join_27 ?_
    have h9 : ¬ qWhy S g 0 (c9 + 1) = 0 := by omega
    unfold sJoin1 rJoin1 at k1; rw [if_neg h9, if_neg h9] at k1
    exact k1 _ (by repeat (first | exact zgA.rf | assumption | refine zgA.put ?_ (by unfold zvd; omega) | refine zgA.two ?_ (by assumption) (by unfold zvd; omega) (by unfold zvd; omega) | refine zgA.tr ?_ (by assumption))) hM_1
set_option maxRecDepth 20000 in
theorem znone1_X12_join {l : Launch} {D : va_G} {b0 : Nat} {tA : Nat → ClassId} {sa sv : Nat → Nat} {K : zKt} {I : zI} {Qp : zI → Option AV → Prop} {Xp : String → zI → Prop} {A : Nat → Nat} {n7 m7 g : Nat} {S : zS}
    (hS : zSh K A n7 m7) (hM : zSt I A n7 m7 S) (hW : zWf S) (hg : g < n7) (k1 : ∀ J : zI, zgA I J A n7 m7 → zSt J A n7 m7 (sJoin1 S g 1 0) → Qp J (some (vi (rJoin1 S g 1 0)))) :
    zC l D b0 tA sa sv K yX12_join (.code yX12_join cX12_join 5 (some .int)) zrm_X12_join [vr (A (0)) 17, vi ((nI g)), vi ((1 : Int32)), vi ((-1 : Int32))] I Qp Xp := by
  have hA := hS.1
  have hn6 := hM.1.1
  have hm12 := hM.1.2
  have hgn := hM.ng
  have hcm := hM.nc
  have hlen := hW.len
  refine zC_of (by decide +kernel) (Nat.le_of_ble_eq_true rfl) ?_
  intro p e s m args below meth c X hnt
  have X : zX p l e zrm_X12_join s m args below meth c RX12 cX12_join 5 (some .int) D b0 tA sa sv := X
  refine zr_lv (lv2 := [some (vr (A (0)) 17), some (vi ((nI g))), some (vi ((1 : Int32))), some (vi ((-1 : Int32))), none]) rfl ?_
  refine zr_aload0 X dX12_join_0 ?_
  refine zr_iload1 X dX12_join_1 ?_
  refine zr_iload2 X dX12_join_2 ?_
  refine zr_iload3 X dX12_join_3 ?_
  refine zr_callV3 (rm9 := zrm_X12_whyNot) X hnt zm_X12_164 (by decide) (by decide) (by decide) (Nat.le_of_ble_eq_true rfl) dX12_join_4 ?_
  refine znone1_X12_whyNot (g := g) hS hM hW (by omega) ?_; have hq5 := qWhy_lt (S := S) (g := g) (s := 1) (w := 0)
  refine zr_istore4 X (by decide) rfl dX12_join_7 ?_
  refine zr_iload4 X dX12_join_9 ?_
  refine zr_nif_le X ((qWhy S g 1 0)) (tgt := 28) (by omega) dX12_join_11 (by decide) (fun h1 => ?_) (fun h1 => ?_)
  · skip
    refine zr_aload0 X dX12_join_28 ?_
    refine zr_getD (r := A (1)) X zf_X12_27 rfl (by decide) (hS.2.1.2.1) dX12_join_29 ?_
    refine zr_iload1 X dX12_join_32 ?_
    refine zr_aaldD (k := 20) (n := g) (r := A (4 + 5 * g)) X rfl (show _ < 6 from (by first | decide | omega)) ((hS.2.2.1 g (by omega)).1) dX12_join_33 ?_
    refine zr_iload2 X dX12_join_34 ?_
    refine zr_callV1 (rm9 := zrm_X9_line) X hnt zm_X12_94 (by decide) (by decide) (by decide) (Nat.le_of_ble_eq_true rfl) dX12_join_35 ?_
    refine zp1_X9_line hS (by omega) ?_
    refine zr_iload3 X dX12_join_38 ?_
    refine zr_callV1 (rm9 := zrm_X10_add) X hnt zm_X12_168 (by decide) (by decide) (by decide) (Nat.le_of_ble_eq_true rfl) dX12_join_39 ?_
    refine zw_X10_add (w := (sL S g 1)) (x := 0) (hM.2.2.2.2.1 g (by omega)).2.2 ((hS.2.2.1 g (by omega)).2.2.2.2) (fun z => absurd (hA _ _ z) (by omega)) (by have := hlen g 1; omega) (by decide) ?_
    intro J1 hg2 hl3; have hM4 : zSt J1 A n7 m7 (tL S g 1 ((sL S g 1) ++ [0])) := zSt_L hA hM (show g < n7 by omega) (Or.inr ⟨rfl, rfl, rfl⟩) hg2 hl3
    refine zr_aload0 X dX12_join_42 ?_
    refine zr_getD (r := A (1)) X zf_X12_27 rfl (by decide) (hS.2.1.2.1) dX12_join_43 ?_
    refine zr_iload1 X dX12_join_46 ?_
    refine zr_aaldD (k := 20) (n := g) (r := A (4 + 5 * g)) X rfl (show _ < 6 from (by first | decide | omega)) ((hS.2.2.1 g (by omega)).1) dX12_join_47 ?_
    refine zr_iload2 X dX12_join_48 ?_
    refine zr_callV1 (rm9 := zrm_X9_line) X hnt zm_X12_94 (by decide) (by decide) (by decide) (Nat.le_of_ble_eq_true rfl) dX12_join_49 ?_
    refine zp1_X9_line hS (by omega) ?_
    refine zr_getI X zf_X12_108 rfl dX12_join_52 ?_
    refine zr_eq (x2 := (nI ((sL (tL S g 1 ((sL S g 1) ++ [0])) g 1).length))) ((hM4.2.2.2.2.1 g (by omega)).2.2.1) ?_
    refine zr_iret X (by decide) (by decide) dX12_join_55 ?_
    have h9 : qWhy S g 1 0 = 0 := by omega
    unfold sJoin1 rJoin1 at k1; rw [if_pos h9, if_pos h9] at k1
    rw [show (sL (tL S g 1 (sL S g 1 ++ [0])) g 1).length = (sL S g 1).length + 1 by rw [tL_L, if_pos ⟨rfl, rfl⟩, List.length_append]; rfl]
    exact k1 _ (by repeat (first | exact zgA.rf | assumption | refine zgA.put ?_ (by unfold zvd; omega) | refine zgA.two ?_ (by assumption) (by unfold zvd; omega) (by unfold zvd; omega) | refine zgA.tr ?_ (by assumption))) hM4
  · skip
    refine zr_aload0 X dX12_join_14 ?_
    refine zr_dupR X dX12_join_15 ?_
    refine zr_getI X zf_X12_56 rfl dX12_join_16 ?_
    refine zr_eq (x2 := (sX S 13)) (hM.2.2.1 13 (by decide) (by decide)) ?_
    refine zr_iconst (v := (1 : Int32)) X dX12_join_19 (by decide) ?_
    refine zr_iadd X dX12_join_20 ?_
    refine zr_putI X zf_X12_56 rfl (Or.inl rfl) dX12_join_21 ?_
    have hM_1 : zSt _ A n7 m7 (tX S 13 ((sX S 13) + (1 : Int32))) := zSt_X hA hM (i := 13) (v := ((sX S 13) + (1 : Int32))) (by decide) (by decide)
    refine zr_iload4 X dX12_join_24 ?_
    refine zr_ineg X dX12_join_26 ?_
    refine zr_iret X (by decide) (by decide) dX12_join_27 ?_
    have h9 : ¬ qWhy S g 1 0 = 0 := by omega
    unfold sJoin1 rJoin1 at k1; rw [if_neg h9, if_neg h9] at k1
    exact k1 _ (by repeat (first | exact zgA.rf | assumption | refine zgA.put ?_ (by unfold zvd; omega) | refine zgA.two ?_ (by assumption) (by unfold zvd; omega) (by unfold zvd; omega) | refine zgA.tr ?_ (by assumption))) hM_1
set_option maxRecDepth 20000 in
theorem zok1_X12_join {l : Launch} {D : va_G} {b0 : Nat} {tA : Nat → ClassId} {sa sv : Nat → Nat} {K : zKt} {I : zI} {Qp : zI → Option AV → Prop} {Xp : String → zI → Prop} {A : Nat → Nat} {n7 m7 g c9 : Nat} {S : zS}
    (hS : zSh K A n7 m7) (hM : zSt I A n7 m7 S) (hW : zWf S) (hg : g < n7) (hc : c9 < 12) (k1 : ∀ J : zI, zgA I J A n7 m7 → zSt J A n7 m7 (sJoin1 S g 1 (c9 + 1)) → Qp J (some (vi (rJoin1 S g 1 (c9 + 1))))) :
    zC l D b0 tA sa sv K yX12_join (.code yX12_join cX12_join 5 (some .int)) zrm_X12_join [vr (A (0)) 17, vi ((nI g)), vi ((1 : Int32)), vi ((nI c9))] I Qp Xp := by
  have hA := hS.1
  have hn6 := hM.1.1
  have hm12 := hM.1.2
  have hgn := hM.ng
  have hcm := hM.nc
  have hlen := hW.len
  refine zC_of (by decide +kernel) (Nat.le_of_ble_eq_true rfl) ?_
  intro p e s m args below meth c X hnt
  have X : zX p l e zrm_X12_join s m args below meth c RX12 cX12_join 5 (some .int) D b0 tA sa sv := X
  refine zr_lv (lv2 := [some (vr (A (0)) 17), some (vi ((nI g))), some (vi ((1 : Int32))), some (vi ((nI c9))), none]) rfl ?_
  refine zr_aload0 X dX12_join_0 ?_
  refine zr_iload1 X dX12_join_1 ?_
  refine zr_iload2 X dX12_join_2 ?_
  refine zr_iload3 X dX12_join_3 ?_
  refine zr_callV3 (rm9 := zrm_X12_whyNot) X hnt zm_X12_164 (by decide) (by decide) (by decide) (Nat.le_of_ble_eq_true rfl) dX12_join_4 ?_
  refine zok1_X12_whyNot (g := g) (c9 := c9) hS hM hW (by omega) (by omega) ?_; have hq5 := qWhy_lt (S := S) (g := g) (s := 1) (w := (c9 + 1))
  refine zr_istore4 X (by decide) rfl dX12_join_7 ?_
  refine zr_iload4 X dX12_join_9 ?_
  refine zr_nif_le X ((qWhy S g 1 (c9 + 1))) (tgt := 28) (by omega) dX12_join_11 (by decide) (fun h1 => ?_) (fun h1 => ?_)
  · skip
    refine zr_aload0 X dX12_join_28 ?_
    refine zr_getD (r := A (1)) X zf_X12_27 rfl (by decide) (hS.2.1.2.1) dX12_join_29 ?_
    refine zr_iload1 X dX12_join_32 ?_
    refine zr_aaldD (k := 20) (n := g) (r := A (4 + 5 * g)) X rfl (show _ < 6 from (by first | decide | omega)) ((hS.2.2.1 g (by omega)).1) dX12_join_33 ?_
    refine zr_iload2 X dX12_join_34 ?_
    refine zr_callV1 (rm9 := zrm_X9_line) X hnt zm_X12_94 (by decide) (by decide) (by decide) (Nat.le_of_ble_eq_true rfl) dX12_join_35 ?_
    refine zp1_X9_line hS (by omega) ?_
    refine zr_iload3 X dX12_join_38 ?_
    refine zr_callV1 (rm9 := zrm_X10_add) X hnt zm_X12_168 (by decide) (by decide) (by decide) (Nat.le_of_ble_eq_true rfl) dX12_join_39 ?_
    refine zw_X10_add (w := (sL S g 1)) (x := (c9 + 1)) (hM.2.2.2.2.1 g (by omega)).2.2 ((hS.2.2.1 g (by omega)).2.2.2.2) (fun z => absurd (hA _ _ z) (by omega)) (by have := hlen g 1; omega) (pk_sub (a := c9 + 1) (b := 1) (by omega)) ?_
    intro J1 hg2 hl3; have hM4 : zSt J1 A n7 m7 (tL S g 1 ((sL S g 1) ++ [(c9 + 1)])) := zSt_L hA hM (show g < n7 by omega) (Or.inr ⟨rfl, rfl, rfl⟩) hg2 hl3
    refine zr_aload0 X dX12_join_42 ?_
    refine zr_getD (r := A (1)) X zf_X12_27 rfl (by decide) (hS.2.1.2.1) dX12_join_43 ?_
    refine zr_iload1 X dX12_join_46 ?_
    refine zr_aaldD (k := 20) (n := g) (r := A (4 + 5 * g)) X rfl (show _ < 6 from (by first | decide | omega)) ((hS.2.2.1 g (by omega)).1) dX12_join_47 ?_
    refine zr_iload2 X dX12_join_48 ?_
    refine zr_callV1 (rm9 := zrm_X9_line) X hnt zm_X12_94 (by decide) (by decide) (by decide) (Nat.le_of_ble_eq_true rfl) dX12_join_49 ?_
    refine zp1_X9_line hS (by omega) ?_
    refine zr_getI X zf_X12_108 rfl dX12_join_52 ?_
    refine zr_eq (x2 := (nI ((sL (tL S g 1 ((sL S g 1) ++ [(c9 + 1)])) g 1).length))) ((hM4.2.2.2.2.1 g (by omega)).2.2.1) ?_
    refine zr_iret X (by decide) (by decide) dX12_join_55 ?_
    have h9 : qWhy S g 1 (c9 + 1) = 0 := by omega
    unfold sJoin1 rJoin1 at k1; rw [if_pos h9, if_pos h9] at k1
    rw [show (sL (tL S g 1 (sL S g 1 ++ [(c9 + 1)])) g 1).length = (sL S g 1).length + 1 by rw [tL_L, if_pos ⟨rfl, rfl⟩, List.length_append]; rfl]
    exact k1 _ (by repeat (first | exact zgA.rf | assumption | refine zgA.put ?_ (by unfold zvd; omega) | refine zgA.two ?_ (by assumption) (by unfold zvd; omega) (by unfold zvd; omega) | refine zgA.tr ?_ (by assumption))) hM4
  · skip
    refine zr_aload0 X dX12_join_14 ?_
    refine zr_dupR X dX12_join_15 ?_
    refine zr_getI X zf_X12_56 rfl dX12_join_16 ?_
    refine zr_eq (x2 := (sX S 13)) (hM.2.2.1 13 (by decide) (by decide)) ?_
    refine zr_iconst (v := (1 : Int32)) X dX12_join_19 (by decide) ?_
    refine zr_iadd X dX12_join_20 ?_
    refine zr_putI X zf_X12_56 rfl (Or.inl rfl) dX12_join_21 ?_
    have hM_1 : zSt _ A n7 m7 (tX S 13 ((sX S 13) + (1 : Int32))) := zSt_X hA hM (i := 13) (v := ((sX S 13) + (1 : Int32))) (by decide) (by decide)
    refine zr_iload4 X dX12_join_24 ?_
    refine zr_ineg X dX12_join_26 ?_
    refine zr_iret X (by decide) (by decide) dX12_join_27 ?_
    have h9 : ¬ qWhy S g 1 (c9 + 1) = 0 := by omega
    unfold sJoin1 rJoin1 at k1; rw [if_neg h9, if_neg h9] at k1
    exact k1 _ (by repeat (first | exact zgA.rf | assumption | refine zgA.put ?_ (by unfold zvd; omega) | refine zgA.two ?_ (by assumption) (by unfold zvd; omega) (by unfold zvd; omega) | refine zgA.tr ?_ (by assumption))) hM_1
