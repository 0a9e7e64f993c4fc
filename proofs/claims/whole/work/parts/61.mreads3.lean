/-! ===== the reference: ranks, gaps ===== -/
abbrev zrm_X8_ranked : Room := { frames := 2, cells := 0, slots := 0, locals := 43 }
theorem zmore_i {u c d : Nat} (hu : u < 2 ^ 20) (hc : c < 2 ^ 20) (hd : d < 2 ^ 20) : (nI u - nI c - nI d).toInt = (u : Int) - (c : Int) - (d : Int) := by
  rw [Int32.toInt_sub, Int32.toInt_sub, nI_toInt (by omega), nI_toInt (by omega), nI_toInt (by omega)]
  rw [Int.bmod_eq_of_le (n := (u : Int) - (c : Int)) (by omega) (by omega), Int.bmod_eq_of_le (by omega) (by omega)]
theorem zmore_gt {u c d : Nat} (hu : u < 2 ^ 20) (hc : c < 2 ^ 20) (hd : d < 2 ^ 20) : ((0 : Int32) < nI u - nI c - nI d) ↔ c + d < u := by
  rw [Int32.lt_iff_toInt_lt, zmore_i hu hc hd]
  have : (0 : Int32).toInt = 0 := by decide
  omega
theorem zmore_eq {u c d : Nat} (hu : u < 2 ^ 20) (hc : c < 2 ^ 20) (hd : d < 2 ^ 20) : (nI u - nI c - nI d = (0 : Int32)) ↔ u = c + d := by
  rw [← Int32.toInt_inj, zmore_i hu hc hd]
  have : (0 : Int32).toInt = 0 := by decide
  omega
set_option maxRecDepth 20000 in
theorem zl2_X8_ranked {l : Launch} {D : va_G} {b0 : Nat} {tA : Nat → ClassId} {sa sv : Nat → Nat} {K : Nat → Option Nat} {I : zI} {Qp : zI → Option AV → Prop} {Xp : String → zI → Prop} {p : Program} {e : Env} {s : State} {m : MethodId} {args : Array Value} {below : List Frame} {meth : Method} {c : Code} {F9 : zI} {y f : Nat} {t : Nat → Nat} {er : Int32} {S : zS} {U : List zS} {v : Int32} {j : Nat}
    (X : zX p l e zrm_X8_ranked s m args below meth c RX8 cX8_ranked 6 (some .int) D b0 tA sa sv) (hnt : ∀ x ∈ c.exceptionTable.toList, False) (hC : zRf F9 I y t f er S U) (hj : j < zng S) (hk : zG p l e zrm_X8_ranked s m args below meth c 6 D b0 tA sa 0 0 (zQ below D b0 tA sa K args s zrm_X8_ranked Qp Xp) K 106 [some (vr (y) 8), some (vi (v)), some (vi ((nI j))), some (vi ((nI (qAhead S j)))), none, none] [] I) :
    ∀ (n : Nat) (i w : Nat), i ≤ zng S → w = nsum (fun o => if qLen S j < qLen S o ∨ (qLen S o = qLen S j ∧ o < j) then 1 else 0) i → zng S - i < n → zG p l e zrm_X8_ranked s m args below meth c 6 D b0 tA sa 0 0 (zQ below D b0 tA sa K args s zrm_X8_ranked Qp Xp) K 22 [some (vr (y) 8), some (vi (v)), some (vi ((nI j))), some (vi ((nI w))), some (vi ((nI i))), none] [] I := by
  intro n
  induction n with
  | zero => intro i w i1 i2 i9; exact absurd i9 (Nat.not_lt_zero _)
  | succ n ih =>
    intro i w i1 i2 i9
    have hW := hC.2.2.2.1
    have hg6 := hW.ng.1
    have hc12 := hW.nc.1
    have hl0 := hW.len i 0
    have hl1 := hW.len i 1
    have hm0 := hW.len j 0
    have hm1 := hW.len j 1
    refine zr_iload4 X dX8_ranked_22 ?_
    refine zr_aload0 X dX8_ranked_24 ?_
    refine zr_getR X zf_X8_17 rfl (by decide) (by decide) dX8_ranked_25 ?_
    refine zr_iconst (v := (4 : Int32)) X dX8_ranked_28 (by decide) ?_
    refine zr_ialdN (n := 4) X rfl (show _ < 310 from (by first | assumption | omega | decide)) dX8_ranked_29 ?_
    refine zr_eq (x2 := (sX S 4)) (hC.2.2.1.1 4 (by decide)) ?_
    refine zr_eq (x2 := (nI (zng S))) (hW.ng.2) ?_
    refine zr_nicmp_ge X (i) ((zng S)) (tgt := 106) (by omega) (by omega) dX8_ranked_30 (by decide) (fun h1 => ?_) (fun h1 => ?_)
    · skip
      have hi : i = zng S := by omega
      subst hi
      refine zr_forget (lv2 := [some (vr (y) 8), some (vi (v)), some (vi ((nI j))), some (vi ((nI w))), none, none]) (fun j9 v9 h9 => by rcases j9 with _ | _ | _ | _ | _ | _ | _ | _ | j9 <;> first | exact h9 | (simp at h9)) ?_
      have e9 : w = qAhead S j := i2
      rw [e9]; exact hk
    · skip
      refine zr_aload0 X dX8_ranked_33 ?_
      refine zr_getR X zf_X8_17 rfl (by decide) (by decide) dX8_ranked_34 ?_
      refine zr_iload4 X dX8_ranked_37 ?_
      refine zr_iconst (v := (0 : Int32)) X dX8_ranked_39 (by decide) ?_
      refine zr_callS3 (rm9 := zrm_X8_many) X hnt zm_X8_38 (by decide) (by decide) (by decide) (Nat.le_of_ble_eq_true rfl) dX8_ranked_40 ?_
      refine zn_X8_many (g := i) (s9 := 0) hC.2.2.1 (by omega) (by omega) ?_
      refine zr_aload0 X dX8_ranked_43 ?_
      refine zr_getR X zf_X8_17 rfl (by decide) (by decide) dX8_ranked_44 ?_
      refine zr_iload4 X dX8_ranked_47 ?_
      refine zr_iconst (v := (1 : Int32)) X dX8_ranked_49 (by decide) ?_
      refine zr_callS3 (rm9 := zrm_X8_many) X hnt zm_X8_38 (by decide) (by decide) (by decide) (Nat.le_of_ble_eq_true rfl) dX8_ranked_50 ?_
      refine zn_X8_many (g := i) (s9 := 1) hC.2.2.1 (by omega) (by omega) ?_
      refine zr_iadd X dX8_ranked_53 ?_
      refine zr_eq (x2 := (nI (((sL S i 0).length) + ((sL S i 1).length)))) (nI_add (((sL S i 0).length)) (((sL S i 1).length))) ?_
      refine zr_aload0 X dX8_ranked_54 ?_
      refine zr_getR X zf_X8_17 rfl (by decide) (by decide) dX8_ranked_55 ?_
      refine zr_iload2 X dX8_ranked_58 ?_
      refine zr_iconst (v := (0 : Int32)) X dX8_ranked_59 (by decide) ?_
      refine zr_callS3 (rm9 := zrm_X8_many) X hnt zm_X8_38 (by decide) (by decide) (by decide) (Nat.le_of_ble_eq_true rfl) dX8_ranked_60 ?_
      refine zn_X8_many (g := j) (s9 := 0) hC.2.2.1 (by omega) (by omega) ?_
      refine zr_isub X dX8_ranked_63 ?_
      refine zr_aload0 X dX8_ranked_64 ?_
      refine zr_getR X zf_X8_17 rfl (by decide) (by decide) dX8_ranked_65 ?_
      refine zr_iload2 X dX8_ranked_68 ?_
      refine zr_iconst (v := (1 : Int32)) X dX8_ranked_69 (by decide) ?_
      refine zr_callS3 (rm9 := zrm_X8_many) X hnt zm_X8_38 (by decide) (by decide) (by decide) (Nat.le_of_ble_eq_true rfl) dX8_ranked_70 ?_
      refine zn_X8_many (g := j) (s9 := 1) hC.2.2.1 (by omega) (by omega) ?_
      refine zr_isub X dX8_ranked_73 ?_
      refine zr_istore5 X (by decide) rfl dX8_ranked_74 ?_
      refine zr_iload3 X dX8_ranked_76 ?_
      refine zr_iload5 X dX8_ranked_77 ?_
      refine zr_if_gt (tgt := 93) X dX8_ranked_79 (by decide) (fun h2 => ?_) (fun h2 => ?_)
      · skip
        refine zr_iconst (v := (1 : Int32)) X dX8_ranked_93 (by decide) ?_
        refine zr_goto (tgt := 98) X dX8_ranked_94 (by decide) ?_
        refine zr_iadd X dX8_ranked_98 ?_
        refine zr_eq (x2 := (nI (w + 1))) (nI_add (w) (1)) ?_
        refine zr_istore3 X (by decide) rfl dX8_ranked_99 ?_
        refine zr_iinc4 (v := (nI (i + 1))) X (show nI (i) + Int32.ofInt 1 = nI (i + 1) from nI_1 (i)) (by decide) rfl dX8_ranked_100 ?_
        refine zr_goto (tgt := 22) X dX8_ranked_103 (by decide) ?_
        have h7 := zmore_gt (u := (sL S i 0).length + (sL S i 1).length) (c := (sL S j 0).length) (d := (sL S j 1).length) (by omega) (by omega) (by omega); have h6 := zmore_eq (u := (sL S i 0).length + (sL S i 1).length) (c := (sL S j 0).length) (d := (sL S j 1).length) (by omega) (by omega) (by omega)
        have h5 := h2; rw [h7] at h5
        refine zr_forget (lv2 := [some (vr (y) 8), some (vi (v)), some (vi ((nI j))), some (vi ((nI (w + 1)))), some (vi ((nI (i + 1)))), none]) (fun j9 v9 h9 => by rcases j9 with _ | _ | _ | _ | _ | _ | _ | _ | j9 <;> first | exact h9 | (simp at h9)) ?_
        exact ih (i + 1) _ (by omega) (by subst i2; show _ = nsum (fun o => if qLen S j < qLen S o ∨ (qLen S o = qLen S j ∧ o < j) then 1 else 0) i + (if qLen S j < qLen S i ∨ (qLen S i = qLen S j ∧ i < j) then 1 else 0); unfold qLen; rw [if_pos (by omega)]) (by omega)
      · skip
        refine zr_iload5 X dX8_ranked_82 ?_
        refine zr_if_ne (tgt := 97) X dX8_ranked_84 (by decide) (fun h3 => ?_) (fun h3 => ?_)
        · skip
          refine zr_iconst (v := (0 : Int32)) X dX8_ranked_97 (by decide) ?_
          refine zr_iadd X dX8_ranked_98 ?_
          refine zr_eq (x2 := (nI (w + 0))) (nI_add (w) (0)) ?_
          refine zr_istore3 X (by decide) rfl dX8_ranked_99 ?_
          refine zr_iinc4 (v := (nI (i + 1))) X (show nI (i) + Int32.ofInt 1 = nI (i + 1) from nI_1 (i)) (by decide) rfl dX8_ranked_100 ?_
          refine zr_goto (tgt := 22) X dX8_ranked_103 (by decide) ?_
          have h7 := zmore_gt (u := (sL S i 0).length + (sL S i 1).length) (c := (sL S j 0).length) (d := (sL S j 1).length) (by omega) (by omega) (by omega); have h6 := zmore_eq (u := (sL S i 0).length + (sL S i 1).length) (c := (sL S j 0).length) (d := (sL S j 1).length) (by omega) (by omega) (by omega)
          have h5 := h2; rw [h7] at h5; have h4 := h3; rw [h6] at h4
          refine zr_forget (lv2 := [some (vr (y) 8), some (vi (v)), some (vi ((nI j))), some (vi ((nI (w + 0)))), some (vi ((nI (i + 1)))), none]) (fun j9 v9 h9 => by rcases j9 with _ | _ | _ | _ | _ | _ | _ | _ | j9 <;> first | exact h9 | (simp at h9)) ?_
          exact ih (i + 1) _ (by omega) (by subst i2; show _ = nsum (fun o => if qLen S j < qLen S o ∨ (qLen S o = qLen S j ∧ o < j) then 1 else 0) i + (if qLen S j < qLen S i ∨ (qLen S i = qLen S j ∧ i < j) then 1 else 0); unfold qLen; rw [if_neg (by omega)]) (by omega)
        · skip
          refine zr_iload4 X dX8_ranked_87 ?_
          refine zr_iload2 X dX8_ranked_89 ?_
          refine zr_nicmp_ge X (i) (j) (tgt := 97) (by omega) (by omega) dX8_ranked_90 (by decide) (fun h4 => ?_) (fun h4 => ?_)
          · skip
            refine zr_iconst (v := (0 : Int32)) X dX8_ranked_97 (by decide) ?_
            refine zr_iadd X dX8_ranked_98 ?_
            refine zr_eq (x2 := (nI (w + 0))) (nI_add (w) (0)) ?_
            refine zr_istore3 X (by decide) rfl dX8_ranked_99 ?_
            refine zr_iinc4 (v := (nI (i + 1))) X (show nI (i) + Int32.ofInt 1 = nI (i + 1) from nI_1 (i)) (by decide) rfl dX8_ranked_100 ?_
            refine zr_goto (tgt := 22) X dX8_ranked_103 (by decide) ?_
            have h7 := zmore_gt (u := (sL S i 0).length + (sL S i 1).length) (c := (sL S j 0).length) (d := (sL S j 1).length) (by omega) (by omega) (by omega); have h6 := zmore_eq (u := (sL S i 0).length + (sL S i 1).length) (c := (sL S j 0).length) (d := (sL S j 1).length) (by omega) (by omega) (by omega)
            have h5 := h2; rw [h7] at h5; have h4 := h3; rw [h6] at h4
            refine zr_forget (lv2 := [some (vr (y) 8), some (vi (v)), some (vi ((nI j))), some (vi ((nI (w + 0)))), some (vi ((nI (i + 1)))), none]) (fun j9 v9 h9 => by rcases j9 with _ | _ | _ | _ | _ | _ | _ | _ | j9 <;> first | exact h9 | (simp at h9)) ?_
            exact ih (i + 1) _ (by omega) (by subst i2; show _ = nsum (fun o => if qLen S j < qLen S o ∨ (qLen S o = qLen S j ∧ o < j) then 1 else 0) i + (if qLen S j < qLen S i ∨ (qLen S i = qLen S j ∧ i < j) then 1 else 0); unfold qLen; rw [if_neg (by omega)]) (by omega)
          · skip
            refine zr_iconst (v := (1 : Int32)) X dX8_ranked_93 (by decide) ?_
            refine zr_goto (tgt := 98) X dX8_ranked_94 (by decide) ?_
            refine zr_iadd X dX8_ranked_98 ?_
            refine zr_eq (x2 := (nI (w + 1))) (nI_add (w) (1)) ?_
            refine zr_istore3 X (by decide) rfl dX8_ranked_99 ?_
            refine zr_iinc4 (v := (nI (i + 1))) X (show nI (i) + Int32.ofInt 1 = nI (i + 1) from nI_1 (i)) (by decide) rfl dX8_ranked_100 ?_
            refine zr_goto (tgt := 22) X dX8_ranked_103 (by decide) ?_
            have h7 := zmore_gt (u := (sL S i 0).length + (sL S i 1).length) (c := (sL S j 0).length) (d := (sL S j 1).length) (by omega) (by omega) (by omega); have h6 := zmore_eq (u := (sL S i 0).length + (sL S i 1).length) (c := (sL S j 0).length) (d := (sL S j 1).length) (by omega) (by omega) (by omega)
            have h5 := h2; rw [h7] at h5; have h4 := h3; rw [h6] at h4
            refine zr_forget (lv2 := [some (vr (y) 8), some (vi (v)), some (vi ((nI j))), some (vi ((nI (w + 1)))), some (vi ((nI (i + 1)))), none]) (fun j9 v9 h9 => by rcases j9 with _ | _ | _ | _ | _ | _ | _ | _ | j9 <;> first | exact h9 | (simp at h9)) ?_
            exact ih (i + 1) _ (by omega) (by subst i2; show _ = nsum (fun o => if qLen S j < qLen S o ∨ (qLen S o = qLen S j ∧ o < j) then 1 else 0) i + (if qLen S j < qLen S i ∨ (qLen S i = qLen S j ∧ i < j) then 1 else 0); unfold qLen; rw [if_pos (by omega)]) (by omega)
set_option maxRecDepth 20000 in
theorem zl_X8_ranked {l : Launch} {D : va_G} {b0 : Nat} {tA : Nat → ClassId} {sa sv : Nat → Nat} {K : Nat → Option Nat} {I : zI} {Qp : zI → Option AV → Prop} {Xp : String → zI → Prop} {p : Program} {e : Env} {s : State} {m : MethodId} {args : Array Value} {below : List Frame} {meth : Method} {c : Code} {F9 : zI} {y f : Nat} {t : Nat → Nat} {er : Int32} {S : zS} {U : List zS} {v : Int32}
    (X : zX p l e zrm_X8_ranked s m args below meth c RX8 cX8_ranked 6 (some .int) D b0 tA sa sv) (hnt : ∀ x ∈ c.exceptionTable.toList, False) (hC : zRf F9 I y t f er S U) (h00 : I y 0 = 0) (k1 : ∀ g, qRank S v = some g → ∀ J : zI, zRf F9 J y t f er S U → J y 0 = 0 → Qp J (some (vi (nI g)))) (k2 : qRank S v = none → ∀ (J : zI) (v9 : Int32), zRf F9 J y t f er S U → J y 0 = 1 → Qp J (some (vi v9))) :
    ∀ (n : Nat) (j : Nat), j ≤ zng S → (∀ i, i < j → ¬ nI (qAhead S i) = v) → zng S - j < n → zG p l e zrm_X8_ranked s m args below meth c 6 D b0 tA sa 0 0 (zQ below D b0 tA sa K args s zrm_X8_ranked Qp Xp) K 7 [some (vr (y) 8), some (vi (v)), some (vi ((nI j))), none, none, none] [] I := by
  intro n
  induction n with
  | zero => intro j i1 i2 i9; exact absurd i9 (Nat.not_lt_zero _)
  | succ n ih =>
    intro j i1 i2 i9
    have hW := hC.2.2.2.1
    have hg6 := hW.ng.1
    have hc12 := hW.nc.1
    refine zr_iload2 X dX8_ranked_7 ?_
    refine zr_aload0 X dX8_ranked_8 ?_
    refine zr_getR X zf_X8_17 rfl (by decide) (by decide) dX8_ranked_9 ?_
    refine zr_iconst (v := (4 : Int32)) X dX8_ranked_12 (by decide) ?_
    refine zr_ialdN (n := 4) X rfl (show _ < 310 from (by first | assumption | omega | decide)) dX8_ranked_13 ?_
    refine zr_eq (x2 := (sX S 4)) (hC.2.2.1.1 4 (by decide)) ?_
    refine zr_eq (x2 := (nI (zng S))) (hW.ng.2) ?_
    refine zr_nicmp_ge X (j) ((zng S)) (tgt := 119) (by omega) (by omega) dX8_ranked_14 (by decide) (fun h1 => ?_) (fun h1 => ?_)
    · skip
      refine zr_aload0 X dX8_ranked_119 ?_
      refine zr_iconst (v := (1 : Int32)) X dX8_ranked_120 (by decide) ?_
      refine zr_iconst (v := (1 : Int32)) X dX8_ranked_121 (by decide) ?_
      refine zr_callV2 (rm9 := zrm_X8_fails) X hnt zm_X8_220 (by decide) (by decide) (by decide) (Nat.le_of_ble_eq_true rfl) dX8_ranked_122 ?_
      refine zf1_X8_fails (h00) (by decide) ?_
      refine zr_if_eq (tgt := 132) X dX8_ranked_125 (by decide) (fun h => absurd h (by decide)) (fun _ => ?_)
      refine zr_iconst (v := (0 : Int32)) X dX8_ranked_128 (by decide) ?_
      refine zr_goto (tgt := 133) X dX8_ranked_129 (by decide) ?_
      refine zr_iret X (by decide) (by decide) dX8_ranked_133 ?_
      exact k2 (qRank_no (fun i hi => i2 i (by omega))) _ _ (hC.put (by decide)) zput_eq
    · skip
      refine zr_iconst (v := (0 : Int32)) X dX8_ranked_17 (by decide) ?_
      refine zr_istore3 X (by decide) rfl dX8_ranked_18 ?_
      refine zr_iconst (v := (0 : Int32)) X dX8_ranked_19 (by decide) ?_
      refine zr_istore4 X (by decide) rfl dX8_ranked_20 ?_
      refine zl2_X8_ranked X hnt hC (j := j) (by omega) ?_ (zng S + 1) 0 0 (by omega) rfl (by omega)
      refine zr_iload3 X dX8_ranked_106 ?_
      refine zr_iload1 X dX8_ranked_107 ?_
      refine zr_icmp_ne (tgt := 113) X dX8_ranked_108 (by decide) (fun h2 => ?_) (fun h2 => ?_)
      · skip
        refine zr_iinc2 (v := (nI (j + 1))) X (show nI (j) + Int32.ofInt 1 = nI (j + 1) from nI_1 (j)) (by decide) rfl dX8_ranked_113 ?_
        refine zr_goto (tgt := 7) X dX8_ranked_116 (by decide) ?_
        refine zr_forget (lv2 := [some (vr (y) 8), some (vi (v)), some (vi ((nI (j + 1)))), none, none, none]) (fun j9 v9 h9 => by rcases j9 with _ | _ | _ | _ | _ | _ | _ | _ | j9 <;> first | exact h9 | (simp at h9)) ?_
        exact ih (j + 1) (by omega) (fun i hi => by rcases Nat.lt_succ_iff_lt_or_eq.mp hi with q | rfl; exact i2 i q; assumption) (by omega)
      · skip
        refine zr_iload2 X dX8_ranked_111 ?_
        refine zr_iret X (by decide) (by decide) dX8_ranked_112 ?_
        exact k1 j (qRank_is (by omega) (by assumption) i2) _ hC h00
set_option maxRecDepth 20000 in
theorem zo_X8_ranked {l : Launch} {D : va_G} {b0 : Nat} {tA : Nat → ClassId} {sa sv : Nat → Nat} {K : Nat → Option Nat} {I : zI} {Qp : zI → Option AV → Prop} {Xp : String → zI → Prop} {F9 : zI} {y f : Nat} {t : Nat → Nat} {er : Int32} {S : zS} {U : List zS} {v : Int32}
    (hC : zRf F9 I y t f er S U) (k1 : ∀ g, qRank S v = some g → ∀ J : zI, zRf F9 J y t f er S U → J y 0 = 0 → Qp J (some (vi (nI g)))) (k2 : qRank S v = none → ∀ (J : zI) (v9 : Int32), zRf F9 J y t f er S U → J y 0 = 1 → Qp J (some (vi v9))) :
    zC l D b0 tA sa sv K yX8_ranked (.code yX8_ranked cX8_ranked 6 (some .int)) zrm_X8_ranked [vr (y) 8, vi (v)] I Qp Xp := by
  have hC1 : zRf F9 (zput I y 0 0) y t f er S U := hC.put (by decide)
  have hW := hC.2.2.2.1
  have hg6 := hW.ng.1
  have hc12 := hW.nc.1
  have hf5 := hC.1.2.1
  refine zC_of (by decide +kernel) (Nat.le_of_ble_eq_true rfl) ?_
  intro p e s m args below meth c X hnt
  have X : zX p l e zrm_X8_ranked s m args below meth c RX8 cX8_ranked 6 (some .int) D b0 tA sa sv := X
  refine zr_lv (lv2 := [some (vr (y) 8), some (vi (v)), none, none, none, none]) rfl ?_
  refine zr_aload0 X dX8_ranked_0 ?_
  refine zr_iconst (v := (0 : Int32)) X dX8_ranked_1 (by decide) ?_
  refine zr_putI X zf_X8_31 rfl (Or.inl rfl) dX8_ranked_2 ?_
  refine zr_iconst (v := (0 : Int32)) X dX8_ranked_5 (by decide) ?_
  refine zr_istore2 X (by decide) rfl dX8_ranked_6 ?_
  exact zl_X8_ranked X hnt hC1 zput_eq k1 k2 (zng S + 1) 0 (by omega) (fun i hi => absurd hi (Nat.not_lt_zero _)) (by omega)
theorem zq_X8_ranked {l : Launch} {D : va_G} {b0 : Nat} {tA : Nat → ClassId} {sa sv : Nat → Nat} {K : Nat → Option Nat} {I : zI} {Qp : zI → Option AV → Prop} {Xp : String → zI → Prop} {F9 : zI} {y f : Nat} {t : Nat → Nat} {er : Int32} {S : zS} {U : List zS} {v : Int32}
    (hC : zRf F9 I y t f er S U) (k0 : (rRank S v).1 = 0 → ∀ J : zI, zRf F9 J y t f er S U → J y 0 = 0 → Qp J (some (vi (rRank S v).2))) (kx1 : (rRank S v).1 = 1 → ∀ (J : zI) (v9 : Int32), zRf F9 J y t f er S U → J y 0 = 1 → Qp J (some (vi v9))) :
    zC l D b0 tA sa sv K yX8_ranked (.code yX8_ranked cX8_ranked 6 (some .int)) zrm_X8_ranked [vr (y) 8, vi (v)] I Qp Xp := by
  unfold rRank at k0 kx1
  refine zo_X8_ranked hC (fun g h => ?_) (fun h => ?_)
  · rw [h] at k0; exact k0 rfl
  · rw [h] at kx1; exact kx1 rfl
abbrev zrm_X8_lines : Room := { frames := 2, cells := 0, slots := 0, locals := 43 }
theorem zline_in {S : zS} {c j i k v : Nat} (hW : zWf S) (hj : j < 6) (hi : i < 2) (h : v ≤ 1 ∧ (v = 1 → ∃ g s p, zAt S c g s p ∧ 20 * g + 10 * s + p < 20 * j + 10 * i + k)) (e : (sL S j i).getD k 0 = c + 1) : v + 1 ≤ 1 ∧ (v + 1 = 1 → ∃ g s p, zAt S c g s p ∧ 20 * g + 10 * s + p < 20 * j + 10 * i + (k + 1)) := by
  have z : zAt S c j i k := ⟨hj, hi, zgd_some e⟩
  have h0 : v = 0 := by
    rcases Nat.eq_zero_or_pos v with q | q
    · exact q
    · obtain ⟨g, s, p, z2, h2⟩ := h.2 (by have := h.1; omega)
      obtain ⟨e1, e2, e3⟩ := hW.uniq _ _ _ _ _ _ _ z z2
      omega
  exact ⟨by omega, fun _ => ⟨j, i, k, z, by omega⟩⟩
theorem zline_up {S : zS} {c v m n : Nat} (h : v ≤ 1 ∧ (v = 1 → ∃ g s p, zAt S c g s p ∧ 20 * g + 10 * s + p < m)) (hm : m ≤ n) : v ≤ 1 ∧ (v = 1 → ∃ g s p, zAt S c g s p ∧ 20 * g + 10 * s + p < n) :=
  ⟨h.1, fun e => by obtain ⟨g, s, p, z, q⟩ := h.2 e; exact ⟨g, s, p, z, by omega⟩⟩
set_option maxRecDepth 20000 in
theorem zl3_X8_lines {l : Launch} {D : va_G} {b0 : Nat} {tA : Nat → ClassId} {sa sv : Nat → Nat} {K : Nat → Option Nat} {I : zI} {Qp : zI → Option AV → Prop} {Xp : String → zI → Prop} {p : Program} {e : Env} {s : State} {m : MethodId} {args : Array Value} {below : List Frame} {meth : Method} {c : Code} {y c9 j i : Nat} {S : zS}
    (X : zX p l e zrm_X8_lines s m args below meth c RX8 cX8_lines 6 (some .int) D b0 tA sa sv) (hnt : ∀ x ∈ c.exceptionTable.toList, False) (hM : zMd I (y + 2) S) (hW : zWf S) (hc : c9 < 12) (hj : j < zng S) (hi : i < 2) (hk3 : ∀ v : Nat, (v ≤ 1 ∧ (v = 1 → ∃ g s p, zAt S c9 g s p ∧ 20 * g + 10 * s + p < 20 * j + 10 * (i + 1))) → zG p l e zrm_X8_lines s m args below meth c 6 D b0 tA sa 0 0 (zQ below D b0 tA sa K args s zrm_X8_lines Qp Xp) K 74 [some (vr (y) 8), some (vi ((nI c9))), some (vi ((nI v))), some (vi ((nI j))), some (vi ((nI i))), none] [] I) :
    ∀ (n : Nat) (k v : Nat), k ≤ (sL S j i).length → (v ≤ 1 ∧ (v = 1 → ∃ g s p, zAt S c9 g s p ∧ 20 * g + 10 * s + p < 20 * j + 10 * i + k)) → (sL S j i).length - k < n → zG p l e zrm_X8_lines s m args below meth c 6 D b0 tA sa 0 0 (zQ below D b0 tA sa K args s zrm_X8_lines Qp Xp) K 26 [some (vr (y) 8), some (vi ((nI c9))), some (vi ((nI v))), some (vi ((nI j))), some (vi ((nI i))), some (vi ((nI k)))] [] I := by
  intro n
  induction n with
  | zero => intro k v i1 i2 i3; exact absurd i3 (Nat.not_lt_zero _)
  | succ n ih =>
    intro k v i1 i2 i3
    have hg6 := hW.ng.1
    have hc12 := hW.nc.1
    have hl9 := hW.len j i
    have hz9 := zgd12 (hW.le12 j i) k
    refine zr_iload5 X dX8_lines_26 ?_
    refine zr_aload0 X dX8_lines_28 ?_
    refine zr_getR X zf_X8_17 rfl (by decide) (by decide) dX8_lines_29 ?_
    refine zr_iload3 X dX8_lines_32 ?_
    refine zr_iload4 X dX8_lines_33 ?_
    refine zr_callS3 (rm9 := zrm_X8_many) X hnt zm_X8_38 (by decide) (by decide) (by decide) (Nat.le_of_ble_eq_true rfl) dX8_lines_35 ?_
    refine zn_X8_many (g := j) (s9 := i) hM (by omega) (by omega) ?_
    refine zr_nicmp_ge X (k) (((sL S j i).length)) (tgt := 74) (by omega) (by omega) dX8_lines_38 (by decide) (fun h1 => ?_) (fun h1 => ?_)
    · skip
      refine zr_forget (lv2 := [some (vr (y) 8), some (vi ((nI c9))), some (vi ((nI v))), some (vi ((nI j))), some (vi ((nI i))), none]) (fun j9 v9 h9 => by rcases j9 with _ | _ | _ | _ | _ | _ | _ | _ | j9 <;> first | exact h9 | (simp at h9)) ?_
      exact hk3 v (zline_up i2 (by omega))
    · skip
      refine zr_iload2 X dX8_lines_41 ?_
      refine zr_aload0 X dX8_lines_42 ?_
      refine zr_getR X zf_X8_17 rfl (by decide) (by decide) dX8_lines_43 ?_
      refine zr_iload3 X dX8_lines_46 ?_
      refine zr_iload4 X dX8_lines_47 ?_
      refine zr_iload5 X dX8_lines_49 ?_
      refine zr_callS3 (rm9 := zrm_X8_placeAt) X hnt zm_X8_42 (by decide) (by decide) (by decide) (Nat.le_of_ble_eq_true rfl) dX8_lines_51 ?_
      refine zn_X8_placeAt (g := j) (s9 := i) (k9 := k) ?_
      refine zr_ialdN (n := 16 + 29 * j + (9 + 10 * i + k)) X rfl (show _ < 310 from (by first | assumption | omega | decide)) dX8_lines_54 ?_
      refine zr_eq (x2 := (nI ((sL S j i).getD k 0))) (((hM.2.1 j (by omega)).2 i (by omega)).2.2 k (by first | assumption | omega)) ?_
      refine zr_iload1 X dX8_lines_55 ?_
      refine zr_iconst (v := (1 : Int32)) X dX8_lines_56 (by decide) ?_
      refine zr_iadd X dX8_lines_57 ?_
      refine zr_eq (x2 := (nI (c9 + 1))) (nI_add (c9) (1)) ?_
      refine zr_nicmp_ne X (((sL S j i).getD k 0)) ((c9 + 1)) (tgt := 65) (by omega) (by omega) dX8_lines_58 (by decide) (fun h2 => ?_) (fun h2 => ?_)
      · skip
        refine zr_iconst (v := (0 : Int32)) X dX8_lines_65 (by decide) ?_
        refine zr_iadd X dX8_lines_66 ?_
        refine zr_eq (x2 := (nI (v + 0))) (nI_add (v) (0)) ?_
        refine zr_istore2 X (by decide) rfl dX8_lines_67 ?_
        refine zr_iinc5 (v := (nI (k + 1))) X (show nI (k) + Int32.ofInt 1 = nI (k + 1) from nI_1 (k)) (by decide) rfl dX8_lines_68 ?_
        refine zr_goto (tgt := 26) X dX8_lines_71 (by decide) ?_
        exact ih (k + 1) _ (by omega) (zline_up i2 (by omega)) (by omega)
      · skip
        refine zr_iconst (v := (1 : Int32)) X dX8_lines_61 (by decide) ?_
        refine zr_goto (tgt := 66) X dX8_lines_62 (by decide) ?_
        refine zr_iadd X dX8_lines_66 ?_
        refine zr_eq (x2 := (nI (v + 1))) (nI_add (v) (1)) ?_
        refine zr_istore2 X (by decide) rfl dX8_lines_67 ?_
        refine zr_iinc5 (v := (nI (k + 1))) X (show nI (k) + Int32.ofInt 1 = nI (k + 1) from nI_1 (k)) (by decide) rfl dX8_lines_68 ?_
        refine zr_goto (tgt := 26) X dX8_lines_71 (by decide) ?_
        exact ih (k + 1) _ (by omega) (zline_in hW (by omega) hi i2 h2) (by omega)
set_option maxRecDepth 20000 in
theorem zl2_X8_lines {l : Launch} {D : va_G} {b0 : Nat} {tA : Nat → ClassId} {sa sv : Nat → Nat} {K : Nat → Option Nat} {I : zI} {Qp : zI → Option AV → Prop} {Xp : String → zI → Prop} {p : Program} {e : Env} {s : State} {m : MethodId} {args : Array Value} {below : List Frame} {meth : Method} {c : Code} {y c9 j : Nat} {S : zS}
    (X : zX p l e zrm_X8_lines s m args below meth c RX8 cX8_lines 6 (some .int) D b0 tA sa sv) (hnt : ∀ x ∈ c.exceptionTable.toList, False) (hM : zMd I (y + 2) S) (hW : zWf S) (hc : c9 < 12) (hj : j < zng S) (hk2 : ∀ v : Nat, (v ≤ 1 ∧ (v = 1 → ∃ g s p, zAt S c9 g s p ∧ 20 * g + 10 * s + p < 20 * (j + 1))) → zG p l e zrm_X8_lines s m args below meth c 6 D b0 tA sa 0 0 (zQ below D b0 tA sa K args s zrm_X8_lines Qp Xp) K 80 [some (vr (y) 8), some (vi ((nI c9))), some (vi ((nI v))), some (vi ((nI j))), none, none] [] I) :
    ∀ (n : Nat) (i v : Nat), i ≤ 2 → (v ≤ 1 ∧ (v = 1 → ∃ g s p, zAt S c9 g s p ∧ 20 * g + 10 * s + p < 20 * j + 10 * i)) → 2 - i < n → zG p l e zrm_X8_lines s m args below meth c 6 D b0 tA sa 0 0 (zQ below D b0 tA sa K args s zrm_X8_lines Qp Xp) K 17 [some (vr (y) 8), some (vi ((nI c9))), some (vi ((nI v))), some (vi ((nI j))), some (vi ((nI i))), none] [] I := by
  intro n
  induction n with
  | zero => intro i v i1 i2 i3; exact absurd i3 (Nat.not_lt_zero _)
  | succ n ih =>
    intro i v i1 i2 i3
    have hg6 := hW.ng.1
    have hc12 := hW.nc.1
    refine zr_iload4 X dX8_lines_17 ?_
    refine zr_iconst (v := (2 : Int32)) X dX8_lines_19 (by decide) ?_
    refine zr_nicmp_ge X (i) (2) (tgt := 80) (by omega) (by omega) dX8_lines_20 (by decide) (fun h1 => ?_) (fun h1 => ?_)
    · skip
      refine zr_forget (lv2 := [some (vr (y) 8), some (vi ((nI c9))), some (vi ((nI v))), some (vi ((nI j))), none, none]) (fun j9 v9 h9 => by rcases j9 with _ | _ | _ | _ | _ | _ | _ | _ | j9 <;> first | exact h9 | (simp at h9)) ?_
      exact hk2 v (zline_up i2 (by omega))
    · skip
      refine zr_iconst (v := (0 : Int32)) X dX8_lines_23 (by decide) ?_
      refine zr_istore5 X (by decide) rfl dX8_lines_24 ?_
      refine zl3_X8_lines X hnt hM hW hc hj (i := i) (by omega) (fun v9 hx => ?_) 12 0 v (by omega) i2 (by have := hW.len j i; omega)
      refine zr_iinc4 (v := (nI (i + 1))) X (show nI (i) + Int32.ofInt 1 = nI (i + 1) from nI_1 (i)) (by decide) rfl dX8_lines_74 ?_
      refine zr_goto (tgt := 17) X dX8_lines_77 (by decide) ?_
      exact ih (i + 1) _ (by omega) hx (by omega)
set_option maxRecDepth 20000 in
theorem zl_X8_lines {l : Launch} {D : va_G} {b0 : Nat} {tA : Nat → ClassId} {sa sv : Nat → Nat} {K : Nat → Option Nat} {I : zI} {Qp : zI → Option AV → Prop} {Xp : String → zI → Prop} {p : Program} {e : Env} {s : State} {m : MethodId} {args : Array Value} {below : List Frame} {meth : Method} {c : Code} {y c9 : Nat} {S : zS}
    (X : zX p l e zrm_X8_lines s m args below meth c RX8 cX8_lines 6 (some .int) D b0 tA sa sv) (hnt : ∀ x ∈ c.exceptionTable.toList, False) (hM : zMd I (y + 2) S) (hW : zWf S) (hc : c9 < 12) (k1 : ∀ v : Nat, v ≤ 1 → Qp I (some (vi (nI v)))) :
    ∀ (n : Nat) (j v : Nat), j ≤ zng S → (v ≤ 1 ∧ (v = 1 → ∃ g s p, zAt S c9 g s p ∧ 20 * g + 10 * s + p < 20 * j)) → zng S - j < n → zG p l e zrm_X8_lines s m args below meth c 6 D b0 tA sa 0 0 (zQ below D b0 tA sa K args s zrm_X8_lines Qp Xp) K 4 [some (vr (y) 8), some (vi ((nI c9))), some (vi ((nI v))), some (vi ((nI j))), none, none] [] I := by
  intro n
  induction n with
  | zero => intro j v i1 i2 i3; exact absurd i3 (Nat.not_lt_zero _)
  | succ n ih =>
    intro j v i1 i2 i3
    have hg6 := hW.ng.1
    have hc12 := hW.nc.1
    refine zr_iload3 X dX8_lines_4 ?_
    refine zr_aload0 X dX8_lines_5 ?_
    refine zr_getR X zf_X8_17 rfl (by decide) (by decide) dX8_lines_6 ?_
    refine zr_iconst (v := (4 : Int32)) X dX8_lines_9 (by decide) ?_
    refine zr_ialdN (n := 4) X rfl (show _ < 310 from (by first | assumption | omega | decide)) dX8_lines_10 ?_
    refine zr_eq (x2 := (sX S 4)) (hM.1 4 (by decide)) ?_
    refine zr_eq (x2 := (nI (zng S))) (hW.ng.2) ?_
    refine zr_nicmp_ge X (j) ((zng S)) (tgt := 86) (by omega) (by omega) dX8_lines_11 (by decide) (fun h1 => ?_) (fun h1 => ?_)
    · skip
      refine zr_iload2 X dX8_lines_86 ?_
      refine zr_iret X (by decide) (by decide) dX8_lines_87 ?_
      exact k1 v i2.1
    · skip
      refine zr_iconst (v := (0 : Int32)) X dX8_lines_14 (by decide) ?_
      refine zr_istore4 X (by decide) rfl dX8_lines_15 ?_
      refine zl2_X8_lines X hnt hM hW hc (j := j) (by omega) (fun v9 hx => ?_) 3 0 v (by omega) i2 (by omega)
      refine zr_iinc3 (v := (nI (j + 1))) X (show nI (j) + Int32.ofInt 1 = nI (j + 1) from nI_1 (j)) (by decide) rfl dX8_lines_80 ?_
      refine zr_goto (tgt := 4) X dX8_lines_83 (by decide) ?_
      exact ih (j + 1) _ (by omega) hx (by omega)
set_option maxRecDepth 20000 in
theorem zp_X8_lines {l : Launch} {D : va_G} {b0 : Nat} {tA : Nat → ClassId} {sa sv : Nat → Nat} {K : Nat → Option Nat} {I : zI} {Qp : zI → Option AV → Prop} {Xp : String → zI → Prop} {y c9 : Nat} {S : zS}
    (hM : zMd I (y + 2) S) (hW : zWf S) (hc : c9 < 12) (k1 : ∀ v : Nat, v ≤ 1 → Qp I (some (vi (nI v)))) :
    zC l D b0 tA sa sv K yX8_lines (.code yX8_lines cX8_lines 6 (some .int)) zrm_X8_lines [vr (y) 8, vi ((nI c9))] I Qp Xp := by
  refine zC_of (by decide +kernel) (Nat.le_of_ble_eq_true rfl) ?_
  intro p e s m args below meth c X hnt
  have X : zX p l e zrm_X8_lines s m args below meth c RX8 cX8_lines 6 (some .int) D b0 tA sa sv := X
  refine zr_lv (lv2 := [some (vr (y) 8), some (vi ((nI c9))), none, none, none, none]) rfl ?_
  refine zr_iconst (v := (0 : Int32)) X dX8_lines_0 (by decide) ?_
  refine zr_istore2 X (by decide) rfl dX8_lines_1 ?_
  refine zr_iconst (v := (0 : Int32)) X dX8_lines_2 (by decide) ?_
  refine zr_istore3 X (by decide) rfl dX8_lines_3 ?_
  exact zl_X8_lines X hnt hM hW hc k1 (zng S + 1) 0 0 (by omega) ⟨Nat.zero_le _, fun z => absurd z (by decide)⟩ (by omega)
abbrev zrm_X8_gap : Room := { frames := 3, cells := 0, slots := 0, locals := 68 }
theorem zn_X8_size {l : Launch} {D : va_G} {b0 : Nat} {tA : Nat → ClassId} {sa sv : Nat → Nat} {K : Nat → Option Nat} {I : zI} {Qp : zI → Option AV → Prop} {Xp : String → zI → Prop} {x : Int32} (k1 : Qp I (some (vi (if 0 ≤ x then x else 0 - x)))) :
    zC l D b0 tA sa sv K yX8_size (.code yX8_size cX8_size 1 (some .int)) zrm_X8_size [vi (x)] I Qp Xp := by
  refine zp_X8_size (fun h => ?_) (fun h => ?_)
  · rw [if_pos h] at k1; exact k1
  · rw [if_neg h, Int32.zero_sub] at k1; exact k1
set_option maxRecDepth 20000 in
theorem zl_X8_gap {l : Launch} {D : va_G} {b0 : Nat} {tA : Nat → ClassId} {sa sv : Nat → Nat} {K : Nat → Option Nat} {I : zI} {Qp : zI → Option AV → Prop} {Xp : String → zI → Prop} {p : Program} {e : Env} {s : State} {m : MethodId} {args : Array Value} {below : List Frame} {meth : Method} {c : Code} {F9 : zI} {y f : Nat} {t : Nat → Nat} {er : Int32} {S : zS} {U : List zS} {x : Int32}
    (X : zX p l e zrm_X8_gap s m args below meth c RX8 cX8_gap 4 (some .int) D b0 tA sa sv) (hnt : ∀ x ∈ c.exceptionTable.toList, False) (hC : zRf F9 I y t f er S U) (hk : zG p l e zrm_X8_gap s m args below meth c 4 D b0 tA sa 0 0 (zQ below D b0 tA sa K args s zrm_X8_gap Qp Xp) K 74 [some (vr (y) 8), some (vi (x)), none, none] [] I) :
    ∀ (n : Nat) (j : Nat), j ≤ znc S → znc S - j < n → zG p l e zrm_X8_gap s m args below meth c 4 D b0 tA sa 0 0 (zQ below D b0 tA sa K args s zrm_X8_gap Qp Xp) K 41 [some (vr (y) 8), some (vi (x)), some (vi ((nI j))), none] [] I := by
  intro n
  induction n with
  | zero => intro j i1 i9; exact absurd i9 (Nat.not_lt_zero _)
  | succ n ih =>
    intro j i1 i9
    have hW := hC.2.2.2.1
    have hg6 := hW.ng.1
    have hc12 := hW.nc.1
    refine zr_iload2 X dX8_gap_41 ?_
    refine zr_aload0 X dX8_gap_42 ?_
    refine zr_getR X zf_X8_17 rfl (by decide) (by decide) dX8_gap_43 ?_
    refine zr_iconst (v := (5 : Int32)) X dX8_gap_46 (by decide) ?_
    refine zr_ialdN (n := 5) X rfl (show _ < 310 from (by first | assumption | omega | decide)) dX8_gap_47 ?_
    refine zr_eq (x2 := (sX S 5)) (hC.2.2.1.1 5 (by decide)) ?_
    refine zr_eq (x2 := (nI (znc S))) (hW.nc.2) ?_
    refine zr_nicmp_ge X (j) ((znc S)) (tgt := 74) (by omega) (by omega) dX8_gap_48 (by decide) (fun h1 => ?_) (fun h1 => ?_)
    · skip
      refine zr_forget (lv2 := [some (vr (y) 8), some (vi (x)), none, none]) (fun j9 v9 h9 => by rcases j9 with _ | _ | _ | _ | _ | _ | _ | _ | j9 <;> first | exact h9 | (simp at h9)) ?_
      exact hk
    · skip
      refine zr_iload1 X dX8_gap_51 ?_
      refine zr_aload0 X dX8_gap_52 ?_
      refine zr_iload2 X dX8_gap_53 ?_
      refine zr_callV1 (rm9 := zrm_X8_lines) X hnt zm_X8_263 (by decide) (by decide) (by decide) (Nat.le_of_ble_eq_true rfl) dX8_gap_54 ?_
      refine zp_X8_lines (c9 := j) hC.2.2.1 hW (by omega) ?_
      intro v1 hv2
      refine zr_iconst (v := (1 : Int32)) X dX8_gap_57 (by decide) ?_
      refine zr_nicmp_le X (v1) (1) (tgt := 65) (by omega) (by omega) dX8_gap_58 (by decide) (fun h2 => ?_) (fun h2 => ?_)
      · skip
        refine zr_iconst (v := (0 : Int32)) X dX8_gap_65 (by decide) ?_
        refine zr_iadd X dX8_gap_66 ?_
        refine zr_eq (x2 := x) (Int32.add_zero _) ?_
        refine zr_istore1 X (by decide) rfl dX8_gap_67 ?_
        refine zr_iinc2 (v := (nI (j + 1))) X (show nI (j) + Int32.ofInt 1 = nI (j + 1) from nI_1 (j)) (by decide) rfl dX8_gap_68 ?_
        refine zr_goto (tgt := 41) X dX8_gap_71 (by decide) ?_
        exact ih (j + 1) (by omega) (by omega)
      · exact absurd h2 (by omega)
set_option maxRecDepth 20000 in
theorem zl2_X8_gap {l : Launch} {D : va_G} {b0 : Nat} {tA : Nat → ClassId} {sa sv : Nat → Nat} {K : Nat → Option Nat} {I : zI} {Qp : zI → Option AV → Prop} {Xp : String → zI → Prop} {p : Program} {e : Env} {s : State} {m : MethodId} {args : Array Value} {below : List Frame} {meth : Method} {c : Code} {F9 : zI} {y f : Nat} {t : Nat → Nat} {er : Int32} {S : zS} {U : List zS}
    (X : zX p l e zrm_X8_gap s m args below meth c RX8 cX8_gap 4 (some .int) D b0 tA sa sv) (hnt : ∀ x ∈ c.exceptionTable.toList, False) (hC : zRf F9 I y t f er S U) (k1 : Qp I (some (vi (qGap S)))) :
    ∀ (n : Nat) (j : Nat) (x : Int32), j ≤ zng S → x = (if 0 ≤ qGapE S then qGapE S else 0 - qGapE S) + nI (nsum (qUns S) j) → zng S - j < n → zG p l e zrm_X8_gap s m args below meth c 4 D b0 tA sa 0 0 (zQ below D b0 tA sa K args s zrm_X8_gap Qp Xp) K 76 [some (vr (y) 8), some (vi (x)), some (vi ((nI j))), none] [] I := by
  intro n
  induction n with
  | zero => intro j x i1 i2 i9; exact absurd i9 (Nat.not_lt_zero _)
  | succ n ih =>
    intro j x i1 i2 i9
    have hW := hC.2.2.2.1
    have hg6 := hW.ng.1
    have hc12 := hW.nc.1
    have hl0 := hW.len j 0
    have hl1 := hW.len j 1
    refine zr_iload2 X dX8_gap_76 ?_
    refine zr_aload0 X dX8_gap_77 ?_
    refine zr_getR X zf_X8_17 rfl (by decide) (by decide) dX8_gap_78 ?_
    refine zr_iconst (v := (4 : Int32)) X dX8_gap_81 (by decide) ?_
    refine zr_ialdN (n := 4) X rfl (show _ < 310 from (by first | assumption | omega | decide)) dX8_gap_82 ?_
    refine zr_eq (x2 := (sX S 4)) (hC.2.2.1.1 4 (by decide)) ?_
    refine zr_eq (x2 := (nI (zng S))) (hW.ng.2) ?_
    refine zr_nicmp_ge X (j) ((zng S)) (tgt := 138) (by omega) (by omega) dX8_gap_83 (by decide) (fun h1 => ?_) (fun h1 => ?_)
    · skip
      refine zr_iload1 X dX8_gap_138 ?_
      refine zr_iret X (by decide) (by decide) dX8_gap_139 ?_
      have e8 : nsum (qUns S) 6 = nsum (qUns S) (zng S) := nsum_tail (fun i hi => by unfold qUns; rw [(hW.blank i hi).2 0, (hW.blank i hi).2 1]; split <;> split <;> rfl) 6 hg6
      have e9 : x = qGap S := by rw [i2, show j = zng S by omega]; unfold qGap qUnserved; rw [e8]
      rw [e9]; exact k1
    · skip
      refine zr_iconst (v := (0 : Int32)) X dX8_gap_86 (by decide) ?_
      refine zr_istore3 X (by decide) rfl dX8_gap_87 ?_
      refine zr_iload3 X dX8_gap_88 ?_
      refine zr_iconst (v := (2 : Int32)) X dX8_gap_89 (by decide) ?_
      refine zr_icmp_ge (tgt := 132) X dX8_gap_90 (by decide) (fun h => absurd h (by decide)) (fun _ => ?_)
      refine zr_iload1 X dX8_gap_93 ?_
      refine zr_aload0 X dX8_gap_94 ?_
      refine zr_getR X zf_X8_17 rfl (by decide) (by decide) dX8_gap_95 ?_
      refine zr_iload2 X dX8_gap_98 ?_
      refine zr_iconst (v := (0 : Int32)) X dX8_gap_99 (by decide) ?_
      refine zr_callS2 (rm9 := zrm_X8_gateAt) X hnt zm_X8_34 (by decide) (by decide) (by decide) (Nat.le_of_ble_eq_true rfl) dX8_gap_100 ?_
      refine zn_X8_gateAt (g := j) (w := 0) ?_
      refine zr_ialdN (n := 16 + 29 * j + 0) X rfl (show _ < 310 from (by first | assumption | omega | decide)) dX8_gap_103 ?_
      refine zr_eq (x2 := (sG S j 0)) ((hC.2.2.1.2.1 j (by omega)).1 0 (by first | decide | omega)) ?_
      refine zr_iload3 X dX8_gap_104 ?_
      refine zr_callS2 (rm9 := zrm_X8_serves) X hnt zm_X8_46 (by decide) (by decide) (by decide) (Nat.le_of_ble_eq_true rfl) dX8_gap_105 ?_
      refine zq_X8_serves (s9 := 0) ?_ ?_
      · skip
        intro hs2
        refine zr_if_eq (tgt := 115) X dX8_gap_108 (by decide) (fun h => absurd h (by decide)) (fun _ => ?_)
        refine zr_iconst (v := (0 : Int32)) X dX8_gap_111 (by decide) ?_
        refine zr_goto (tgt := 124) X dX8_gap_112 (by decide) ?_
        refine zr_iadd X dX8_gap_124 ?_
        refine zr_istore1 X (by decide) rfl dX8_gap_125 ?_
        refine zr_iinc3 (v := (1 : Int32)) X (by decide) (by decide) rfl dX8_gap_126 ?_
        refine zr_goto (tgt := 88) X dX8_gap_129 (by decide) ?_
        refine zr_iload3 X dX8_gap_88 ?_
        refine zr_iconst (v := (2 : Int32)) X dX8_gap_89 (by decide) ?_
        refine zr_icmp_ge (tgt := 132) X dX8_gap_90 (by decide) (fun h => absurd h (by decide)) (fun _ => ?_)
        refine zr_iload1 X dX8_gap_93 ?_
        refine zr_aload0 X dX8_gap_94 ?_
        refine zr_getR X zf_X8_17 rfl (by decide) (by decide) dX8_gap_95 ?_
        refine zr_iload2 X dX8_gap_98 ?_
        refine zr_iconst (v := (0 : Int32)) X dX8_gap_99 (by decide) ?_
        refine zr_callS2 (rm9 := zrm_X8_gateAt) X hnt zm_X8_34 (by decide) (by decide) (by decide) (Nat.le_of_ble_eq_true rfl) dX8_gap_100 ?_
        refine zn_X8_gateAt (g := j) (w := 0) ?_
        refine zr_ialdN (n := 16 + 29 * j + 0) X rfl (show _ < 310 from (by first | assumption | omega | decide)) dX8_gap_103 ?_
        refine zr_eq (x2 := (sG S j 0)) ((hC.2.2.1.2.1 j (by omega)).1 0 (by first | decide | omega)) ?_
        refine zr_iload3 X dX8_gap_104 ?_
        refine zr_callS2 (rm9 := zrm_X8_serves) X hnt zm_X8_46 (by decide) (by decide) (by decide) (Nat.le_of_ble_eq_true rfl) dX8_gap_105 ?_
        refine zq_X8_serves (s9 := 1) ?_ ?_
        · skip
          intro hs3
          refine zr_if_eq (tgt := 115) X dX8_gap_108 (by decide) (fun h => absurd h (by decide)) (fun _ => ?_)
          refine zr_iconst (v := (0 : Int32)) X dX8_gap_111 (by decide) ?_
          refine zr_goto (tgt := 124) X dX8_gap_112 (by decide) ?_
          refine zr_iadd X dX8_gap_124 ?_
          refine zr_istore1 X (by decide) rfl dX8_gap_125 ?_
          refine zr_iinc3 (v := (2 : Int32)) X (by decide) (by decide) rfl dX8_gap_126 ?_
          refine zr_goto (tgt := 88) X dX8_gap_129 (by decide) ?_
          refine zr_iload3 X dX8_gap_88 ?_
          refine zr_iconst (v := (2 : Int32)) X dX8_gap_89 (by decide) ?_
          refine zr_icmp_ge (tgt := 132) X dX8_gap_90 (by decide) (fun _ => ?_) (fun h => absurd h (by decide))
          refine zr_iinc2 (v := (nI (j + 1))) X (show nI (j) + Int32.ofInt 1 = nI (j + 1) from nI_1 (j)) (by decide) rfl dX8_gap_132 ?_
          refine zr_goto (tgt := 76) X dX8_gap_135 (by decide) ?_
          refine zr_forget (lv2 := [some (vr (y) 8), some (vi (((x + (0 : Int32)) + (0 : Int32)))), some (vi ((nI (j + 1)))), none]) (fun j9 v9 h9 => by rcases j9 with _ | _ | _ | _ | _ | _ | _ | _ | j9 <;> first | exact h9 | (simp at h9)) ?_
          refine ih (j + 1) _ (by omega) ?_ (by omega)
          have e9 : qUns S j = 0 + 0 := by unfold qUns; rw [if_pos hs2, if_pos hs3]
          rw [nsum, e9, ← nI_add, ← nI_add, i2]
          simp only [Int32.add_assoc] <;> rfl
        · skip
          intro hs3
          refine zr_if_eq (tgt := 115) X dX8_gap_108 (by decide) (fun _ => ?_) (fun h => absurd h (by decide))
          refine zr_aload0 X dX8_gap_115 ?_
          refine zr_getR X zf_X8_17 rfl (by decide) (by decide) dX8_gap_116 ?_
          refine zr_iload2 X dX8_gap_119 ?_
          refine zr_iload3 X dX8_gap_120 ?_
          refine zr_callS3 (rm9 := zrm_X8_many) X hnt zm_X8_38 (by decide) (by decide) (by decide) (Nat.le_of_ble_eq_true rfl) dX8_gap_121 ?_
          refine zn_X8_many (g := j) (s9 := 1) hC.2.2.1 (by omega) (by omega) ?_
          refine zr_iadd X dX8_gap_124 ?_
          refine zr_istore1 X (by decide) rfl dX8_gap_125 ?_
          refine zr_iinc3 (v := (2 : Int32)) X (by decide) (by decide) rfl dX8_gap_126 ?_
          refine zr_goto (tgt := 88) X dX8_gap_129 (by decide) ?_
          refine zr_iload3 X dX8_gap_88 ?_
          refine zr_iconst (v := (2 : Int32)) X dX8_gap_89 (by decide) ?_
          refine zr_icmp_ge (tgt := 132) X dX8_gap_90 (by decide) (fun _ => ?_) (fun h => absurd h (by decide))
          refine zr_iinc2 (v := (nI (j + 1))) X (show nI (j) + Int32.ofInt 1 = nI (j + 1) from nI_1 (j)) (by decide) rfl dX8_gap_132 ?_
          refine zr_goto (tgt := 76) X dX8_gap_135 (by decide) ?_
          refine zr_forget (lv2 := [some (vr (y) 8), some (vi (((x + (0 : Int32)) + (nI ((sL S j 1).length))))), some (vi ((nI (j + 1)))), none]) (fun j9 v9 h9 => by rcases j9 with _ | _ | _ | _ | _ | _ | _ | _ | j9 <;> first | exact h9 | (simp at h9)) ?_
          refine ih (j + 1) _ (by omega) ?_ (by omega)
          have e9 : qUns S j = 0 + (sL S j 1).length := by unfold qUns; rw [if_pos hs2, if_neg hs3]
          rw [nsum, e9, ← nI_add, ← nI_add, i2]
          simp only [Int32.add_assoc] <;> rfl
      · skip
        intro hs2
        refine zr_if_eq (tgt := 115) X dX8_gap_108 (by decide) (fun _ => ?_) (fun h => absurd h (by decide))
        refine zr_aload0 X dX8_gap_115 ?_
        refine zr_getR X zf_X8_17 rfl (by decide) (by decide) dX8_gap_116 ?_
        refine zr_iload2 X dX8_gap_119 ?_
        refine zr_iload3 X dX8_gap_120 ?_
        refine zr_callS3 (rm9 := zrm_X8_many) X hnt zm_X8_38 (by decide) (by decide) (by decide) (Nat.le_of_ble_eq_true rfl) dX8_gap_121 ?_
        refine zn_X8_many (g := j) (s9 := 0) hC.2.2.1 (by omega) (by omega) ?_
        refine zr_iadd X dX8_gap_124 ?_
        refine zr_istore1 X (by decide) rfl dX8_gap_125 ?_
        refine zr_iinc3 (v := (1 : Int32)) X (by decide) (by decide) rfl dX8_gap_126 ?_
        refine zr_goto (tgt := 88) X dX8_gap_129 (by decide) ?_
        refine zr_iload3 X dX8_gap_88 ?_
        refine zr_iconst (v := (2 : Int32)) X dX8_gap_89 (by decide) ?_
        refine zr_icmp_ge (tgt := 132) X dX8_gap_90 (by decide) (fun h => absurd h (by decide)) (fun _ => ?_)
        refine zr_iload1 X dX8_gap_93 ?_
        refine zr_aload0 X dX8_gap_94 ?_
        refine zr_getR X zf_X8_17 rfl (by decide) (by decide) dX8_gap_95 ?_
        refine zr_iload2 X dX8_gap_98 ?_
        refine zr_iconst (v := (0 : Int32)) X dX8_gap_99 (by decide) ?_
        refine zr_callS2 (rm9 := zrm_X8_gateAt) X hnt zm_X8_34 (by decide) (by decide) (by decide) (Nat.le_of_ble_eq_true rfl) dX8_gap_100 ?_
        refine zn_X8_gateAt (g := j) (w := 0) ?_
        refine zr_ialdN (n := 16 + 29 * j + 0) X rfl (show _ < 310 from (by first | assumption | omega | decide)) dX8_gap_103 ?_
        refine zr_eq (x2 := (sG S j 0)) ((hC.2.2.1.2.1 j (by omega)).1 0 (by first | decide | omega)) ?_
        refine zr_iload3 X dX8_gap_104 ?_
        refine zr_callS2 (rm9 := zrm_X8_serves) X hnt zm_X8_46 (by decide) (by decide) (by decide) (Nat.le_of_ble_eq_true rfl) dX8_gap_105 ?_
        refine zq_X8_serves (s9 := 1) ?_ ?_
        · skip
          intro hs4
          refine zr_if_eq (tgt := 115) X dX8_gap_108 (by decide) (fun h => absurd h (by decide)) (fun _ => ?_)
          refine zr_iconst (v := (0 : Int32)) X dX8_gap_111 (by decide) ?_
          refine zr_goto (tgt := 124) X dX8_gap_112 (by decide) ?_
          refine zr_iadd X dX8_gap_124 ?_
          refine zr_istore1 X (by decide) rfl dX8_gap_125 ?_
          refine zr_iinc3 (v := (2 : Int32)) X (by decide) (by decide) rfl dX8_gap_126 ?_
          refine zr_goto (tgt := 88) X dX8_gap_129 (by decide) ?_
          refine zr_iload3 X dX8_gap_88 ?_
          refine zr_iconst (v := (2 : Int32)) X dX8_gap_89 (by decide) ?_
          refine zr_icmp_ge (tgt := 132) X dX8_gap_90 (by decide) (fun _ => ?_) (fun h => absurd h (by decide))
          refine zr_iinc2 (v := (nI (j + 1))) X (show nI (j) + Int32.ofInt 1 = nI (j + 1) from nI_1 (j)) (by decide) rfl dX8_gap_132 ?_
          refine zr_goto (tgt := 76) X dX8_gap_135 (by decide) ?_
          refine zr_forget (lv2 := [some (vr (y) 8), some (vi (((x + (nI ((sL S j 0).length))) + (0 : Int32)))), some (vi ((nI (j + 1)))), none]) (fun j9 v9 h9 => by rcases j9 with _ | _ | _ | _ | _ | _ | _ | _ | j9 <;> first | exact h9 | (simp at h9)) ?_
          refine ih (j + 1) _ (by omega) ?_ (by omega)
          have e9 : qUns S j = (sL S j 0).length + 0 := by unfold qUns; rw [if_neg hs2, if_pos hs4]
          rw [nsum, e9, ← nI_add, ← nI_add, i2]
          simp only [Int32.add_assoc] <;> rfl
        · skip
          intro hs4
          refine zr_if_eq (tgt := 115) X dX8_gap_108 (by decide) (fun _ => ?_) (fun h => absurd h (by decide))
          refine zr_aload0 X dX8_gap_115 ?_
          refine zr_getR X zf_X8_17 rfl (by decide) (by decide) dX8_gap_116 ?_
          refine zr_iload2 X dX8_gap_119 ?_
          refine zr_iload3 X dX8_gap_120 ?_
          refine zr_callS3 (rm9 := zrm_X8_many) X hnt zm_X8_38 (by decide) (by decide) (by decide) (Nat.le_of_ble_eq_true rfl) dX8_gap_121 ?_
          refine zn_X8_many (g := j) (s9 := 1) hC.2.2.1 (by omega) (by omega) ?_
          refine zr_iadd X dX8_gap_124 ?_
          refine zr_istore1 X (by decide) rfl dX8_gap_125 ?_
          refine zr_iinc3 (v := (2 : Int32)) X (by decide) (by decide) rfl dX8_gap_126 ?_
          refine zr_goto (tgt := 88) X dX8_gap_129 (by decide) ?_
          refine zr_iload3 X dX8_gap_88 ?_
          refine zr_iconst (v := (2 : Int32)) X dX8_gap_89 (by decide) ?_
          refine zr_icmp_ge (tgt := 132) X dX8_gap_90 (by decide) (fun _ => ?_) (fun h => absurd h (by decide))
          refine zr_iinc2 (v := (nI (j + 1))) X (show nI (j) + Int32.ofInt 1 = nI (j + 1) from nI_1 (j)) (by decide) rfl dX8_gap_132 ?_
          refine zr_goto (tgt := 76) X dX8_gap_135 (by decide) ?_
          refine zr_forget (lv2 := [some (vr (y) 8), some (vi (((x + (nI ((sL S j 0).length))) + (nI ((sL S j 1).length))))), some (vi ((nI (j + 1)))), none]) (fun j9 v9 h9 => by rcases j9 with _ | _ | _ | _ | _ | _ | _ | _ | j9 <;> first | exact h9 | (simp at h9)) ?_
          refine ih (j + 1) _ (by omega) ?_ (by omega)
          have e9 : qUns S j = (sL S j 0).length + (sL S j 1).length := by unfold qUns; rw [if_neg hs2, if_neg hs4]
          rw [nsum, e9, ← nI_add, ← nI_add, i2]
          simp only [Int32.add_assoc] <;> rfl
set_option maxRecDepth 20000 in
theorem zq_X8_gap {l : Launch} {D : va_G} {b0 : Nat} {tA : Nat → ClassId} {sa sv : Nat → Nat} {K : Nat → Option Nat} {I : zI} {Qp : zI → Option AV → Prop} {Xp : String → zI → Prop} {F9 : zI} {y f : Nat} {t : Nat → Nat} {er : Int32} {S : zS} {U : List zS}
    (hC : zRf F9 I y t f er S U) (k1 : ∀ J : zI, zRf F9 J y t f er S U → J y 0 = 0 → Qp J (some (vi (qGap S)))) :
    zC l D b0 tA sa sv K yX8_gap (.code yX8_gap cX8_gap 4 (some .int)) zrm_X8_gap [vr (y) 8] I Qp Xp := by
  have hC1 : zRf F9 (zput I y 0 0) y t f er S U := hC.put (by decide)
  have hW := hC.2.2.2.1
  have hg6 := hW.ng.1
  have hc12 := hW.nc.1
  have hf5 := hC.1.2.1
  refine zC_of (by decide +kernel) (Nat.le_of_ble_eq_true rfl) ?_
  intro p e s m args below meth c X hnt
  have X : zX p l e zrm_X8_gap s m args below meth c RX8 cX8_gap 4 (some .int) D b0 tA sa sv := X
  refine zr_lv (lv2 := [some (vr (y) 8), none, none, none]) rfl ?_
  refine zr_aload0 X dX8_gap_0 ?_
  refine zr_iconst (v := (0 : Int32)) X dX8_gap_1 (by decide) ?_
  refine zr_putI X zf_X8_31 rfl (Or.inl rfl) dX8_gap_2 ?_
  refine zr_aload0 X dX8_gap_5 ?_
  refine zr_getR X zf_X8_17 rfl (by decide) (by decide) dX8_gap_6 ?_
  refine zr_bipush (v := (9 : Int32)) X dX8_gap_9 (by decide) ?_
  refine zr_ialdN (n := 9) X rfl (show _ < 310 from (by first | assumption | omega | decide)) dX8_gap_11 ?_
  refine zr_eq (x2 := (sX S 9)) (hC1.2.2.1.1 9 (by decide)) ?_
  refine zr_aload0 X dX8_gap_12 ?_
  refine zr_getR X zf_X8_17 rfl (by decide) (by decide) dX8_gap_13 ?_
  refine zr_bipush (v := (10 : Int32)) X dX8_gap_16 (by decide) ?_
  refine zr_ialdN (n := 10) X rfl (show _ < 310 from (by first | assumption | omega | decide)) dX8_gap_18 ?_
  refine zr_eq (x2 := (sX S 10)) (hC1.2.2.1.1 10 (by decide)) ?_
  refine zr_isub X dX8_gap_19 ?_
  refine zr_aload0 X dX8_gap_20 ?_
  refine zr_getR X zf_X8_17 rfl (by decide) (by decide) dX8_gap_21 ?_
  refine zr_bipush (v := (15 : Int32)) X dX8_gap_24 (by decide) ?_
  refine zr_ialdN (n := 15) X rfl (show _ < 310 from (by first | assumption | omega | decide)) dX8_gap_26 ?_
  refine zr_eq (x2 := (sX S 15)) (hC1.2.2.1.1 15 (by decide)) ?_
  refine zr_isub X dX8_gap_27 ?_
  refine zr_aload0 X dX8_gap_28 ?_
  refine zr_getR X zf_X8_17 rfl (by decide) (by decide) dX8_gap_29 ?_
  refine zr_iconst (v := (3 : Int32)) X dX8_gap_32 (by decide) ?_
  refine zr_ialdN (n := 3) X rfl (show _ < 310 from (by first | assumption | omega | decide)) dX8_gap_33 ?_
  refine zr_eq (x2 := (sX S 3)) (hC1.2.2.1.1 3 (by decide)) ?_
  refine zr_isub X dX8_gap_34 ?_
  refine zr_callS1 (rm9 := zrm_X8_size) X hnt zm_X8_260 (by decide) (by decide) (by decide) (Nat.le_of_ble_eq_true rfl) dX8_gap_35 ?_
  refine zn_X8_size ?_
  refine zr_istore1 X (by decide) rfl dX8_gap_38 ?_
  refine zr_iconst (v := (0 : Int32)) X dX8_gap_39 (by decide) ?_
  refine zr_istore2 X (by decide) rfl dX8_gap_40 ?_
  refine zl_X8_gap X hnt hC1 ?_ (znc S + 1) 0 (by omega) (by omega)
  refine zr_iconst (v := (0 : Int32)) X dX8_gap_74 (by decide) ?_
  refine zr_istore2 X (by decide) rfl dX8_gap_75 ?_
  refine zr_forget (lv2 := [some (vr (y) 8), some (vi ((if 0 ≤ ((((sX S 9) - (sX S 10)) - (sX S 15)) - (sX S 3)) then ((((sX S 9) - (sX S 10)) - (sX S 15)) - (sX S 3)) else 0 - ((((sX S 9) - (sX S 10)) - (sX S 15)) - (sX S 3))))), some (vi ((0 : Int32))), none]) (fun j9 v9 h9 => by rcases j9 with _ | _ | _ | _ | _ | _ | _ | _ | j9 <;> first | exact h9 | (simp at h9)) ?_
  exact zl2_X8_gap X hnt hC1 (k1 _ hC1 zput_eq) (zng S + 1) 0 _ (by omega) (by show _ = (if 0 ≤ qGapE S then qGapE S else 0 - qGapE S) + nI 0; exact (Int32.add_zero _).symm) (by omega)
