/-! ===== the reference: undo, bytes, when somebody would be through ===== -/
theorem zHi_pop {I : zI} {y : Nat} {u9 : zS} {U : List zS} (h : zHi I y (u9 :: U)) : I y 12 = nI (U.length + 1) ∧ U.length + 1 ≤ 8 ∧ zMd I (y + 5 + 1 + 1 * U.length) u9 ∧ ∀ (J : zI), zag (zput I y 12 (nI U.length)) J (y + 2) 1 → zHi J y U := by
  obtain ⟨h1, h2, h3⟩ := h
  rw [List.length_cons] at h1 h2
  refine ⟨h1, h2, ?_, fun J hg => ⟨(congrFun (hg y (by omega)) 12).trans zput_eq, by omega, fun i u hu => ?_⟩⟩
  · have := h3 0 u9 rfl
    rw [List.length_cons, show U.length + 1 - 1 - 0 = U.length by omega] at this; exact this
  · have hi : i < U.length := by
      rcases Nat.lt_or_ge i U.length with q | q
      · exact q
      · rw [List.getElem?_eq_none q] at hu; cases hu
    have := h3 (i + 1) u hu
    rw [List.length_cons, show U.length + 1 - 1 - (i + 1) = U.length - 1 - i by omega] at this
    exact this.kept ((hg _ (by omega)).trans (zput_nq (by omega)))
abbrev zrm_X8_undo : Room := { frames := 1, cells := 0, slots := 0, locals := 22 }
set_option maxRecDepth 20000 in
theorem ze_X8_undo {l : Launch} {D : va_G} {b0 : Nat} {tA : Nat → ClassId} {sa sv : Nat → Nat} {K : Nat → Option Nat} {I : zI} {Qp : zI → Option AV → Prop} {Xp : String → zI → Prop} {F9 : zI} {y f : Nat} {t : Nat → Nat} {er : Int32} {S : zS} {U : List zS}
    (hC : zRf F9 I y t f er S U) (hU : U = []) (k1 : ∀ J : zI, zRf F9 J y t f er S [] → J y 0 = 0 → Qp J (some (vi (-1)))) :
    zC l D b0 tA sa sv K yX8_undo (.code yX8_undo cX8_undo 1 (some .int)) zrm_X8_undo [vr (y) 8] I Qp Xp := by
  have hC1 : zRf F9 (zput I y 0 0) y t f er S U := hC.put (by decide)
  have hW := hC.2.2.2.1
  have hg6 := hW.ng.1
  have hc12 := hW.nc.1
  have hf5 := hC.1.2.1
  refine zC_of (by decide +kernel) (Nat.le_of_ble_eq_true rfl) ?_
  intro p e s m args below meth c X hnt
  have X : zX p l e zrm_X8_undo s m args below meth c RX8 cX8_undo 1 (some .int) D b0 tA sa sv := X
  refine zr_lv (lv2 := [some (vr (y) 8)]) rfl ?_
  refine zr_aload0 X dX8_undo_0 ?_
  refine zr_iconst (v := (0 : Int32)) X dX8_undo_1 (by decide) ?_
  refine zr_putI X zf_X8_31 rfl (Or.inl rfl) dX8_undo_2 ?_
  refine zr_aload0 X dX8_undo_5 ?_
  refine zr_getI X zf_X8_266 rfl dX8_undo_6 ?_
  refine zr_eq (x2 := (I (y) 12)) ((zput_nj (by decide))) ?_
  refine zr_eq (x2 := (nI 0)) ((hC.2.2.2.2.2.1.1).trans (by rw [hU]; rfl)) ?_
  refine zr_nif_ne X (0) (tgt := 14) (by omega) dX8_undo_9 (by decide) (fun h1 => ?_) (fun h1 => ?_)
  · skip
    exact absurd rfl (by assumption)
  · skip
    refine zr_iconst (v := (-1 : Int32)) X dX8_undo_12 (by decide) ?_
    refine zr_iret X (by decide) (by decide) dX8_undo_13 ?_
    subst hU; exact k1 _ hC1 zput_eq
set_option maxRecDepth 20000 in
theorem zo_X8_undo {l : Launch} {D : va_G} {b0 : Nat} {tA : Nat → ClassId} {sa sv : Nat → Nat} {K : Nat → Option Nat} {I : zI} {Qp : zI → Option AV → Prop} {Xp : String → zI → Prop} {F9 : zI} {y f : Nat} {t : Nat → Nat} {er : Int32} {S u9 : zS} {U : List zS}
    (hC : zRf F9 I y t f er S (u9 :: U)) (k1 : ∀ J : zI, zRf F9 J y t f er u9 U → J y 0 = 0 → Qp J (some (vi (nI U.length)))) :
    zC l D b0 tA sa sv K yX8_undo (.code yX8_undo cX8_undo 1 (some .int)) zrm_X8_undo [vr (y) 8] I Qp Xp := by
  have hC1 : zRf F9 (zput I y 0 0) y t f er S (u9 :: U) := hC.put (by decide)
  obtain ⟨h12, hl8, hm9, -⟩ := zHi_pop hC.2.2.2.2.2.1
  refine zC_of (by decide +kernel) (Nat.le_of_ble_eq_true rfl) ?_
  intro p e s m args below meth c X hnt
  have X : zX p l e zrm_X8_undo s m args below meth c RX8 cX8_undo 1 (some .int) D b0 tA sa sv := X
  refine zr_lv (lv2 := [some (vr (y) 8)]) rfl ?_
  refine zr_aload0 X dX8_undo_0 ?_
  refine zr_iconst (v := (0 : Int32)) X dX8_undo_1 (by decide) ?_
  refine zr_putI X zf_X8_31 rfl (Or.inl rfl) dX8_undo_2 ?_
  refine zr_aload0 X dX8_undo_5 ?_
  refine zr_getI X zf_X8_266 rfl dX8_undo_6 ?_
  refine zr_eq (x2 := (I (y) 12)) ((zput_nj (by decide))) ?_
  refine zr_eq (x2 := (nI (U.length + 1))) (h12) ?_
  refine zr_nif_ne X ((U.length + 1)) (tgt := 14) (by omega) dX8_undo_9 (by decide) (fun h1 => ?_) (fun h1 => ?_)
  · skip
    refine zr_aload0 X dX8_undo_14 ?_
    refine zr_dupR X dX8_undo_15 ?_
    refine zr_getI X zf_X8_266 rfl dX8_undo_16 ?_
    refine zr_eq (x2 := (I (y) 12)) ((zput_nj (by decide))) ?_
    refine zr_eq (x2 := (nI (U.length + 1))) (h12) ?_
    refine zr_iconst (v := (1 : Int32)) X dX8_undo_19 (by decide) ?_
    refine zr_isub X dX8_undo_20 ?_
    refine zr_eq (x2 := (nI ((U.length + 1) - 1))) (pk_sub (a := (U.length + 1)) (b := 1) (by omega)) ?_
    refine zr_putI X zf_X8_266 rfl (Or.inl rfl) dX8_undo_21 ?_
    refine zr_aload0 X dX8_undo_24 ?_
    refine zr_getR X zf_X8_28 rfl (by decide) (by decide) dX8_undo_25 ?_
    refine zr_aload0 X dX8_undo_28 ?_
    refine zr_getI X zf_X8_266 rfl dX8_undo_29 ?_
    refine zr_eq (x2 := (nI ((U.length + 1) - 1))) (zput_eq) ?_
    refine zr_eq (x2 := (nI U.length)) (by rw [Nat.add_sub_cancel]) ?_
    refine zr_aaldN X rfl rfl (by decide) (show _ < 8 from (by first | assumption | omega)) dX8_undo_32 ?_
    refine zr_aload0 X dX8_undo_33 ?_
    refine zr_getR X zf_X8_17 rfl (by decide) (by decide) dX8_undo_34 ?_
    refine zr_callS2 (rm9 := zrm_X8_copy) X hnt zm_X8_232 (by decide) (by decide) (by decide) (Nat.le_of_ble_eq_true rfl) dX8_undo_37 ?_
    refine zp_X8_copy (S := u9) (by omega) ((hm9.kept (zput_nq (by omega))).kept (zput_nq (by omega))) ?_
    intro J1 hg2 hM3
    refine zr_aload0 X dX8_undo_40 ?_
    refine zr_getI X zf_X8_266 rfl dX8_undo_41 ?_
    refine zr_eq (x2 := (nI ((U.length + 1) - 1))) ((congrFun (hg2 (y) (by omega)) 12).trans (zput_eq)) ?_
    refine zr_eq (x2 := (nI U.length)) (by rw [Nat.add_sub_cancel]) ?_
    refine zr_iret X (by decide) (by decide) dX8_undo_44 ?_
    have hq : ∀ q, q ≠ y → q ≠ y + 2 → J1 q = I q := fun q h1 h2 => (hg2 q (by omega)).trans ((zput_nq h1).trans (zput_nq h1))
    have hy9 : ∀ j, j ≠ 12 → j ≠ 0 → J1 y j = I y j := fun j h1 h2 => (congrFun (hg2 y (by omega)) j).trans ((zput_nj h1).trans (zput_nj h2))
    have hH9 : zHi J1 y U := (zHi_pop (U := U) (u9 := u9) (hC1.2.2.2.2.2.1)).2.2.2 J1 hg2
    refine k1 J1 ⟨⟨(hy9 2 (by decide) (by decide)).trans hC.1.1, hC.1.2.1, hC.1.2.2.1, fun k hk => by rw [hq _ (by omega) (by omega)]; exact hC.1.2.2.2 k hk⟩, (hy9 7 (by decide) (by decide)).trans hC.2.1, hM3, hC.2.2.2.2.2.2 u9 List.mem_cons_self, fun q h9 => (hq q (by omega) (by omega)).trans (hC.2.2.2.2.1 q h9), hH9, fun w hw => hC.2.2.2.2.2.2 w (List.mem_cons_of_mem _ hw)⟩ ((congrFun (hg2 y (by omega)) 0).trans ((zput_nj (by decide)).trans zput_eq))
  · exact absurd h1 (by omega)
theorem zq_X8_undo {l : Launch} {D : va_G} {b0 : Nat} {tA : Nat → ClassId} {sa sv : Nat → Nat} {K : Nat → Option Nat} {I : zI} {Qp : zI → Option AV → Prop} {Xp : String → zI → Prop} {F9 : zI} {y f : Nat} {t : Nat → Nat} {er : Int32} {S : zS} {U : List zS} (hC : zRf F9 I y t f er S U) (k1 : ∀ J : zI, zRf F9 J y t f er (sUndo S U) U.tail → J y 0 = 0 → Qp J (some (vi (rUndo U)))) :
    zC l D b0 tA sa sv K yX8_undo (.code yX8_undo cX8_undo 1 (some .int)) zrm_X8_undo [vr (y) 8] I Qp Xp := by
  cases U with
  | nil => exact ze_X8_undo hC rfl (fun J h => k1 J h)
  | cons u r => exact zo_X8_undo hC (fun J h => k1 J h)
abbrev zrm_X8_append : Room := { frames := 0, cells := 0, slots := 0, locals := 0 }
theorem tApp_lo {t : Nat → Nat} {f i : Nat} {a b c d e : Int32} (hi : i < f) : tApp t f a b c d e i = t i := by
  unfold tApp
  rw [tAdd_lo (by omega), tAdd_lo (by omega), tAdd_lo (by omega), tAdd_lo (by omega), tAdd_lo hi]
theorem tApp_256 {t : Nat → Nat} {f : Nat} {a b c d e : Int32} (h : ∀ k, t k < 256) (k : Nat) : tApp t f a b c d e k < 256 := by
  unfold tApp
  exact tAdd_lt (tAdd_lt (tAdd_lt (tAdd_lt (tAdd_lt h)))) k
theorem tApp_at {t : Nat → Nat} {f k : Nat} {a b c d e : Int32} (hk : k < 20) : tApp t f a b c d e (f + k) = wBy (if k < 4 then a else if k < 8 then b else if k < 12 then c else if k < 16 then d else e) (k % 4) := by
  unfold tApp
  by_cases h1 : k < 4
  · rw [if_pos h1, tAdd_lo (by omega), tAdd_lo (by omega), tAdd_lo (by omega), tAdd_lo (by omega), tAdd_at h1, Nat.mod_eq_of_lt h1]
  · rw [if_neg h1]
    by_cases h2 : k < 8
    · rw [if_pos h2, tAdd_lo (by omega), tAdd_lo (by omega), tAdd_lo (by omega), show f + k = f + 4 + (k - 4) by omega, tAdd_at (by omega), show k - 4 = k % 4 by omega]
    · rw [if_neg h2]
      by_cases h3 : k < 12
      · rw [if_pos h3, tAdd_lo (by omega), tAdd_lo (by omega), show f + k = f + 4 + 4 + (k - 8) by omega, tAdd_at (by omega), show k - 8 = k % 4 by omega]
      · rw [if_neg h3]
        by_cases h4 : k < 16
        · rw [if_pos h4, tAdd_lo (by omega), show f + k = f + 4 + 4 + 4 + (k - 12) by omega, tAdd_at (by omega), show k - 12 = k % 4 by omega]
        · rw [if_neg h4, show f + k = f + 4 + 4 + 4 + 4 + (k - 16) by omega, tAdd_at (by omega), show k - 16 = k % 4 by omega]
theorem wBy_and (w : Int32) (k : Nat) : (w >>> (nI (24 - 8 * k) &&& 31)) &&& 255 = nI (wBy w k) := (i8_255 _).2.2
set_option maxRecDepth 20000 in
theorem zl_X8_append {l : Launch} {D : va_G} {b0 : Nat} {tA : Nat → ClassId} {sa sv : Nat → Nat} {K : Nat → Option Nat} {I : zI} {Qp : zI → Option AV → Prop} {Xp : String → zI → Prop} {p : Program} {e : Env} {s : State} {m : MethodId} {args : Array Value} {below : List Frame} {meth : Method} {c : Code} {F9 : zI} {y f : Nat} {t : Nat → Nat} {er : Int32} {S : zS} {U : List zS} {w1 w2 w3 w4 w5 : Int32}
    (X : zX p l e zrm_X8_append s m args below meth c RX8 cX8_append 8 (some .int) D b0 tA sa sv) (hnt : ∀ x ∈ c.exceptionTable.toList, False) (hC : zRf F9 I y t f er S U) (hf : f ≤ 480) (k1 : ∀ J : zI, zRf F9 J y (tApp t f w1 w2 w3 w4 w5) (f + 20) er S U → J y 0 = I y 0 → Qp J (some (vi (nI (f + 20))))) :
    ∀ (n : Nat) (k : Nat) (J : zI), k ≤ 20 → J y 2 = nI (f + k) → (∀ j, j ≠ 2 → J y j = I y j) → (∀ q, q ≠ y → q ≠ y + 1 → J q = I q) → (∀ i, i < f + k → J (y + 1) i = nI (tApp t f w1 w2 w3 w4 w5 i)) → 20 - k < n → zG p l e zrm_X8_append s m args below meth c 8 D b0 tA sa 0 0 (zQ below D b0 tA sa K args s zrm_X8_append Qp Xp) K 23 [some (vr (y) 8), some (vi (w1)), some (vi (w2)), some (vi (w3)), some (vi (w4)), some (vi (w5)), some (vi ((nI k))), none] [] J := by
  intro n
  induction n with
  | zero => intro k J i1 i2 i3 i4 i5 i9; exact absurd i9 (Nat.not_lt_zero _)
  | succ n ih =>
    intro k J i1 i2 i3 i4 i5 i9
    refine zr_iload6 X dX8_append_23 ?_
    refine zr_bipush (v := (20 : Int32)) X dX8_append_25 (by decide) ?_
    refine zr_nicmp_ge X (k) (20) (tgt := 120) (by omega) (by omega) dX8_append_27 (by decide) (fun h1 => ?_) (fun h1 => ?_)
    · skip
      refine zr_aload0 X dX8_append_120 ?_
      refine zr_getI X zf_X8_98 rfl dX8_append_121 ?_
      refine zr_eq (x2 := (nI (f + k))) (i2) ?_
      refine zr_iret X (by decide) (by decide) dX8_append_124 ?_
      have hk20 : k = 20 := by omega
      subst hk20
      exact k1 J ⟨⟨i2, by omega, tApp_256 hC.1.2.2.1, i5⟩, (i3 7 (by decide)).trans hC.2.1, hC.2.2.1.kept (i4 _ (by omega) (by omega)), hC.2.2.2.1, fun q h9 => (i4 q (by omega) (by omega)).trans (hC.2.2.2.2.1 q h9), ⟨(i3 12 (by decide)).trans hC.2.2.2.2.2.1.1, hC.2.2.2.2.2.1.2.1, fun i u hu => (hC.2.2.2.2.2.1.2.2 i u hu).kept (i4 _ (by omega) (by omega))⟩, hC.2.2.2.2.2.2⟩ (i3 0 (by decide))
    · skip
      refine zr_iload6 X dX8_append_30 ?_
      refine zr_iconst (v := (4 : Int32)) X dX8_append_32 (by decide) ?_
      refine zr_nicmp_ge X (k) (4) (tgt := 40) (by omega) (by omega) dX8_append_33 (by decide) (fun h2 => ?_) (fun h2 => ?_)
      · skip
        refine zr_iload6 X dX8_append_40 ?_
        refine zr_bipush (v := (8 : Int32)) X dX8_append_42 (by decide) ?_
        refine zr_nicmp_ge X (k) (8) (tgt := 51) (by omega) (by omega) dX8_append_44 (by decide) (fun h3 => ?_) (fun h3 => ?_)
        · skip
          refine zr_iload6 X dX8_append_51 ?_
          refine zr_bipush (v := (12 : Int32)) X dX8_append_53 (by decide) ?_
          refine zr_nicmp_ge X (k) (12) (tgt := 62) (by omega) (by omega) dX8_append_55 (by decide) (fun h4 => ?_) (fun h4 => ?_)
          · skip
            refine zr_iload6 X dX8_append_62 ?_
            refine zr_bipush (v := (16 : Int32)) X dX8_append_64 (by decide) ?_
            refine zr_nicmp_ge X (k) (16) (tgt := 74) (by omega) (by omega) dX8_append_66 (by decide) (fun h5 => ?_) (fun h5 => ?_)
            · skip
              refine zr_iload5 X dX8_append_74 ?_
              refine zr_istore7 X (by decide) rfl dX8_append_76 ?_
              refine zr_aload0 X dX8_append_78 ?_
              refine zr_getR X zf_X8_9 rfl (by decide) (by decide) dX8_append_79 ?_
              refine zr_aload0 X dX8_append_82 ?_
              refine zr_getI X zf_X8_98 rfl dX8_append_83 ?_
              refine zr_eq (x2 := (nI (f + k))) (i2) ?_
              refine zr_iload7 X dX8_append_86 ?_
              refine zr_bipush (v := (24 : Int32)) X dX8_append_88 (by decide) ?_
              refine zr_bipush (v := (8 : Int32)) X dX8_append_90 (by decide) ?_
              refine zr_iload6 X dX8_append_92 ?_
              refine zr_iconst (v := (4 : Int32)) X dX8_append_94 (by decide) ?_
              refine zr_irem X dX8_append_95 (by decide) ?_
              refine zr_eq (x2 := (nI (k % 4))) (pk_rem (d := 4) (by omega) (by decide) (by decide)) ?_
              refine zr_imul X dX8_append_96 ?_
              refine zr_eq (x2 := (nI (8 * (k % 4)))) (nI_mul (8) ((k % 4))) ?_
              refine zr_isub X dX8_append_97 ?_
              refine zr_eq (x2 := (nI (24 - (8 * (k % 4))))) (pk_sub (a := 24) (b := (8 * (k % 4))) (by omega)) ?_
              refine zr_ishr X dX8_append_98 ?_
              refine zr_sipush (v := (255 : Int32)) X dX8_append_99 (by decide) ?_
              refine zr_iand X dX8_append_102 ?_
              refine zr_eq (x2 := (nI (wBy w5 (k % 4)))) (wBy_and _ _) ?_
              refine zr_iastN X rfl (show _ < 500 from (by first | assumption | omega)) dX8_append_103 ?_
              refine zr_aload0 X dX8_append_104 ?_
              refine zr_dupR X dX8_append_105 ?_
              refine zr_getI X zf_X8_98 rfl dX8_append_106 ?_
              refine zr_eq (x2 := (J (y) 2)) ((zput_ne (by omega))) ?_
              refine zr_eq (x2 := (nI (f + k))) (i2) ?_
              refine zr_iconst (v := (1 : Int32)) X dX8_append_109 (by decide) ?_
              refine zr_iadd X dX8_append_110 ?_
              refine zr_eq (x2 := (nI ((f + k) + 1))) (nI_add ((f + k)) (1)) ?_
              refine zr_putI X zf_X8_98 rfl (Or.inl rfl) dX8_append_111 ?_
              refine zr_iinc6 (v := (nI (k + 1))) X (show nI (k) + Int32.ofInt 1 = nI (k + 1) from nI_1 (k)) (by decide) rfl dX8_append_114 ?_
              refine zr_goto (tgt := 23) X dX8_append_117 (by decide) ?_
              have e9 : tApp t f w1 w2 w3 w4 w5 (f + k) = wBy w5 (k % 4) := by rw [tApp_at (by omega), if_neg (by omega), if_neg (by omega), if_neg (by omega), if_neg (by omega)]
              refine zr_forget (lv2 := [some (vr (y) 8), some (vi (w1)), some (vi (w2)), some (vi (w3)), some (vi (w4)), some (vi (w5)), some (vi ((nI (k + 1)))), none]) (fun j9 v9 h9 => by rcases j9 with _ | _ | _ | _ | _ | _ | _ | _ | j9 <;> first | exact h9 | (simp at h9)) ?_
              refine ih (k + 1) _ (by omega) zput_eq (fun j hj => ?_) (fun q h1 h2 => ?_) (fun i hi => ?_) (by omega)
              · rw [zput_nj hj, zput_ne (by omega)]; exact i3 j hj
              · rw [zput_nq h1, zput_nq h2]; exact i4 q h1 h2
              · rw [zput_ne (by omega)]
                by_cases e : i = f + k
                · subst e; rw [zput_eq, e9]
                · rw [zput_nj e]; exact i5 i (by omega)
            · skip
              refine zr_iload4 X dX8_append_69 ?_
              refine zr_goto (tgt := 76) X dX8_append_71 (by decide) ?_
              refine zr_istore7 X (by decide) rfl dX8_append_76 ?_
              refine zr_aload0 X dX8_append_78 ?_
              refine zr_getR X zf_X8_9 rfl (by decide) (by decide) dX8_append_79 ?_
              refine zr_aload0 X dX8_append_82 ?_
              refine zr_getI X zf_X8_98 rfl dX8_append_83 ?_
              refine zr_eq (x2 := (nI (f + k))) (i2) ?_
              refine zr_iload7 X dX8_append_86 ?_
              refine zr_bipush (v := (24 : Int32)) X dX8_append_88 (by decide) ?_
              refine zr_bipush (v := (8 : Int32)) X dX8_append_90 (by decide) ?_
              refine zr_iload6 X dX8_append_92 ?_
              refine zr_iconst (v := (4 : Int32)) X dX8_append_94 (by decide) ?_
              refine zr_irem X dX8_append_95 (by decide) ?_
              refine zr_eq (x2 := (nI (k % 4))) (pk_rem (d := 4) (by omega) (by decide) (by decide)) ?_
              refine zr_imul X dX8_append_96 ?_
              refine zr_eq (x2 := (nI (8 * (k % 4)))) (nI_mul (8) ((k % 4))) ?_
              refine zr_isub X dX8_append_97 ?_
              refine zr_eq (x2 := (nI (24 - (8 * (k % 4))))) (pk_sub (a := 24) (b := (8 * (k % 4))) (by omega)) ?_
              refine zr_ishr X dX8_append_98 ?_
              refine zr_sipush (v := (255 : Int32)) X dX8_append_99 (by decide) ?_
              refine zr_iand X dX8_append_102 ?_
              refine zr_eq (x2 := (nI (wBy w4 (k % 4)))) (wBy_and _ _) ?_
              refine zr_iastN X rfl (show _ < 500 from (by first | assumption | omega)) dX8_append_103 ?_
              refine zr_aload0 X dX8_append_104 ?_
              refine zr_dupR X dX8_append_105 ?_
              refine zr_getI X zf_X8_98 rfl dX8_append_106 ?_
              refine zr_eq (x2 := (J (y) 2)) ((zput_ne (by omega))) ?_
              refine zr_eq (x2 := (nI (f + k))) (i2) ?_
              refine zr_iconst (v := (1 : Int32)) X dX8_append_109 (by decide) ?_
              refine zr_iadd X dX8_append_110 ?_
              refine zr_eq (x2 := (nI ((f + k) + 1))) (nI_add ((f + k)) (1)) ?_
              refine zr_putI X zf_X8_98 rfl (Or.inl rfl) dX8_append_111 ?_
              refine zr_iinc6 (v := (nI (k + 1))) X (show nI (k) + Int32.ofInt 1 = nI (k + 1) from nI_1 (k)) (by decide) rfl dX8_append_114 ?_
              refine zr_goto (tgt := 23) X dX8_append_117 (by decide) ?_
              have e9 : tApp t f w1 w2 w3 w4 w5 (f + k) = wBy w4 (k % 4) := by rw [tApp_at (by omega), if_neg (by omega), if_neg (by omega), if_neg (by omega), if_pos (by omega)]
              refine zr_forget (lv2 := [some (vr (y) 8), some (vi (w1)), some (vi (w2)), some (vi (w3)), some (vi (w4)), some (vi (w5)), some (vi ((nI (k + 1)))), none]) (fun j9 v9 h9 => by rcases j9 with _ | _ | _ | _ | _ | _ | _ | _ | j9 <;> first | exact h9 | (simp at h9)) ?_
              refine ih (k + 1) _ (by omega) zput_eq (fun j hj => ?_) (fun q h1 h2 => ?_) (fun i hi => ?_) (by omega)
              · rw [zput_nj hj, zput_ne (by omega)]; exact i3 j hj
              · rw [zput_nq h1, zput_nq h2]; exact i4 q h1 h2
              · rw [zput_ne (by omega)]
                by_cases e : i = f + k
                · subst e; rw [zput_eq, e9]
                · rw [zput_nj e]; exact i5 i (by omega)
          · skip
            refine zr_iload3 X dX8_append_58 ?_
            refine zr_goto (tgt := 76) X dX8_append_59 (by decide) ?_
            refine zr_istore7 X (by decide) rfl dX8_append_76 ?_
            refine zr_aload0 X dX8_append_78 ?_
            refine zr_getR X zf_X8_9 rfl (by decide) (by decide) dX8_append_79 ?_
            refine zr_aload0 X dX8_append_82 ?_
            refine zr_getI X zf_X8_98 rfl dX8_append_83 ?_
            refine zr_eq (x2 := (nI (f + k))) (i2) ?_
            refine zr_iload7 X dX8_append_86 ?_
            refine zr_bipush (v := (24 : Int32)) X dX8_append_88 (by decide) ?_
            refine zr_bipush (v := (8 : Int32)) X dX8_append_90 (by decide) ?_
            refine zr_iload6 X dX8_append_92 ?_
            refine zr_iconst (v := (4 : Int32)) X dX8_append_94 (by decide) ?_
            refine zr_irem X dX8_append_95 (by decide) ?_
            refine zr_eq (x2 := (nI (k % 4))) (pk_rem (d := 4) (by omega) (by decide) (by decide)) ?_
            refine zr_imul X dX8_append_96 ?_
            refine zr_eq (x2 := (nI (8 * (k % 4)))) (nI_mul (8) ((k % 4))) ?_
            refine zr_isub X dX8_append_97 ?_
            refine zr_eq (x2 := (nI (24 - (8 * (k % 4))))) (pk_sub (a := 24) (b := (8 * (k % 4))) (by omega)) ?_
            refine zr_ishr X dX8_append_98 ?_
            refine zr_sipush (v := (255 : Int32)) X dX8_append_99 (by decide) ?_
            refine zr_iand X dX8_append_102 ?_
            refine zr_eq (x2 := (nI (wBy w3 (k % 4)))) (wBy_and _ _) ?_
            refine zr_iastN X rfl (show _ < 500 from (by first | assumption | omega)) dX8_append_103 ?_
            refine zr_aload0 X dX8_append_104 ?_
            refine zr_dupR X dX8_append_105 ?_
            refine zr_getI X zf_X8_98 rfl dX8_append_106 ?_
            refine zr_eq (x2 := (J (y) 2)) ((zput_ne (by omega))) ?_
            refine zr_eq (x2 := (nI (f + k))) (i2) ?_
            refine zr_iconst (v := (1 : Int32)) X dX8_append_109 (by decide) ?_
            refine zr_iadd X dX8_append_110 ?_
            refine zr_eq (x2 := (nI ((f + k) + 1))) (nI_add ((f + k)) (1)) ?_
            refine zr_putI X zf_X8_98 rfl (Or.inl rfl) dX8_append_111 ?_
            refine zr_iinc6 (v := (nI (k + 1))) X (show nI (k) + Int32.ofInt 1 = nI (k + 1) from nI_1 (k)) (by decide) rfl dX8_append_114 ?_
            refine zr_goto (tgt := 23) X dX8_append_117 (by decide) ?_
            have e9 : tApp t f w1 w2 w3 w4 w5 (f + k) = wBy w3 (k % 4) := by rw [tApp_at (by omega), if_neg (by omega), if_neg (by omega), if_pos (by omega)]
            refine zr_forget (lv2 := [some (vr (y) 8), some (vi (w1)), some (vi (w2)), some (vi (w3)), some (vi (w4)), some (vi (w5)), some (vi ((nI (k + 1)))), none]) (fun j9 v9 h9 => by rcases j9 with _ | _ | _ | _ | _ | _ | _ | _ | j9 <;> first | exact h9 | (simp at h9)) ?_
            refine ih (k + 1) _ (by omega) zput_eq (fun j hj => ?_) (fun q h1 h2 => ?_) (fun i hi => ?_) (by omega)
            · rw [zput_nj hj, zput_ne (by omega)]; exact i3 j hj
            · rw [zput_nq h1, zput_nq h2]; exact i4 q h1 h2
            · rw [zput_ne (by omega)]
              by_cases e : i = f + k
              · subst e; rw [zput_eq, e9]
              · rw [zput_nj e]; exact i5 i (by omega)
        · skip
          refine zr_iload2 X dX8_append_47 ?_
          refine zr_goto (tgt := 76) X dX8_append_48 (by decide) ?_
          refine zr_istore7 X (by decide) rfl dX8_append_76 ?_
          refine zr_aload0 X dX8_append_78 ?_
          refine zr_getR X zf_X8_9 rfl (by decide) (by decide) dX8_append_79 ?_
          refine zr_aload0 X dX8_append_82 ?_
          refine zr_getI X zf_X8_98 rfl dX8_append_83 ?_
          refine zr_eq (x2 := (nI (f + k))) (i2) ?_
          refine zr_iload7 X dX8_append_86 ?_
          refine zr_bipush (v := (24 : Int32)) X dX8_append_88 (by decide) ?_
          refine zr_bipush (v := (8 : Int32)) X dX8_append_90 (by decide) ?_
          refine zr_iload6 X dX8_append_92 ?_
          refine zr_iconst (v := (4 : Int32)) X dX8_append_94 (by decide) ?_
          refine zr_irem X dX8_append_95 (by decide) ?_
          refine zr_eq (x2 := (nI (k % 4))) (pk_rem (d := 4) (by omega) (by decide) (by decide)) ?_
          refine zr_imul X dX8_append_96 ?_
          refine zr_eq (x2 := (nI (8 * (k % 4)))) (nI_mul (8) ((k % 4))) ?_
          refine zr_isub X dX8_append_97 ?_
          refine zr_eq (x2 := (nI (24 - (8 * (k % 4))))) (pk_sub (a := 24) (b := (8 * (k % 4))) (by omega)) ?_
          refine zr_ishr X dX8_append_98 ?_
          refine zr_sipush (v := (255 : Int32)) X dX8_append_99 (by decide) ?_
          refine zr_iand X dX8_append_102 ?_
          refine zr_eq (x2 := (nI (wBy w2 (k % 4)))) (wBy_and _ _) ?_
          refine zr_iastN X rfl (show _ < 500 from (by first | assumption | omega)) dX8_append_103 ?_
          refine zr_aload0 X dX8_append_104 ?_
          refine zr_dupR X dX8_append_105 ?_
          refine zr_getI X zf_X8_98 rfl dX8_append_106 ?_
          refine zr_eq (x2 := (J (y) 2)) ((zput_ne (by omega))) ?_
          refine zr_eq (x2 := (nI (f + k))) (i2) ?_
          refine zr_iconst (v := (1 : Int32)) X dX8_append_109 (by decide) ?_
          refine zr_iadd X dX8_append_110 ?_
          refine zr_eq (x2 := (nI ((f + k) + 1))) (nI_add ((f + k)) (1)) ?_
          refine zr_putI X zf_X8_98 rfl (Or.inl rfl) dX8_append_111 ?_
          refine zr_iinc6 (v := (nI (k + 1))) X (show nI (k) + Int32.ofInt 1 = nI (k + 1) from nI_1 (k)) (by decide) rfl dX8_append_114 ?_
          refine zr_goto (tgt := 23) X dX8_append_117 (by decide) ?_
          have e9 : tApp t f w1 w2 w3 w4 w5 (f + k) = wBy w2 (k % 4) := by rw [tApp_at (by omega), if_neg (by omega), if_pos (by omega)]
          refine zr_forget (lv2 := [some (vr (y) 8), some (vi (w1)), some (vi (w2)), some (vi (w3)), some (vi (w4)), some (vi (w5)), some (vi ((nI (k + 1)))), none]) (fun j9 v9 h9 => by rcases j9 with _ | _ | _ | _ | _ | _ | _ | _ | j9 <;> first | exact h9 | (simp at h9)) ?_
          refine ih (k + 1) _ (by omega) zput_eq (fun j hj => ?_) (fun q h1 h2 => ?_) (fun i hi => ?_) (by omega)
          · rw [zput_nj hj, zput_ne (by omega)]; exact i3 j hj
          · rw [zput_nq h1, zput_nq h2]; exact i4 q h1 h2
          · rw [zput_ne (by omega)]
            by_cases e : i = f + k
            · subst e; rw [zput_eq, e9]
            · rw [zput_nj e]; exact i5 i (by omega)
      · skip
        refine zr_iload1 X dX8_append_36 ?_
        refine zr_goto (tgt := 76) X dX8_append_37 (by decide) ?_
        refine zr_istore7 X (by decide) rfl dX8_append_76 ?_
        refine zr_aload0 X dX8_append_78 ?_
        refine zr_getR X zf_X8_9 rfl (by decide) (by decide) dX8_append_79 ?_
        refine zr_aload0 X dX8_append_82 ?_
        refine zr_getI X zf_X8_98 rfl dX8_append_83 ?_
        refine zr_eq (x2 := (nI (f + k))) (i2) ?_
        refine zr_iload7 X dX8_append_86 ?_
        refine zr_bipush (v := (24 : Int32)) X dX8_append_88 (by decide) ?_
        refine zr_bipush (v := (8 : Int32)) X dX8_append_90 (by decide) ?_
        refine zr_iload6 X dX8_append_92 ?_
        refine zr_iconst (v := (4 : Int32)) X dX8_append_94 (by decide) ?_
        refine zr_irem X dX8_append_95 (by decide) ?_
        refine zr_eq (x2 := (nI (k % 4))) (pk_rem (d := 4) (by omega) (by decide) (by decide)) ?_
        refine zr_imul X dX8_append_96 ?_
        refine zr_eq (x2 := (nI (8 * (k % 4)))) (nI_mul (8) ((k % 4))) ?_
        refine zr_isub X dX8_append_97 ?_
        refine zr_eq (x2 := (nI (24 - (8 * (k % 4))))) (pk_sub (a := 24) (b := (8 * (k % 4))) (by omega)) ?_
        refine zr_ishr X dX8_append_98 ?_
        refine zr_sipush (v := (255 : Int32)) X dX8_append_99 (by decide) ?_
        refine zr_iand X dX8_append_102 ?_
        refine zr_eq (x2 := (nI (wBy w1 (k % 4)))) (wBy_and _ _) ?_
        refine zr_iastN X rfl (show _ < 500 from (by first | assumption | omega)) dX8_append_103 ?_
        refine zr_aload0 X dX8_append_104 ?_
        refine zr_dupR X dX8_append_105 ?_
        refine zr_getI X zf_X8_98 rfl dX8_append_106 ?_
        refine zr_eq (x2 := (J (y) 2)) ((zput_ne (by omega))) ?_
        refine zr_eq (x2 := (nI (f + k))) (i2) ?_
        refine zr_iconst (v := (1 : Int32)) X dX8_append_109 (by decide) ?_
        refine zr_iadd X dX8_append_110 ?_
        refine zr_eq (x2 := (nI ((f + k) + 1))) (nI_add ((f + k)) (1)) ?_
        refine zr_putI X zf_X8_98 rfl (Or.inl rfl) dX8_append_111 ?_
        refine zr_iinc6 (v := (nI (k + 1))) X (show nI (k) + Int32.ofInt 1 = nI (k + 1) from nI_1 (k)) (by decide) rfl dX8_append_114 ?_
        refine zr_goto (tgt := 23) X dX8_append_117 (by decide) ?_
        have e9 : tApp t f w1 w2 w3 w4 w5 (f + k) = wBy w1 (k % 4) := by rw [tApp_at (by omega), if_pos (by omega)]
        refine zr_forget (lv2 := [some (vr (y) 8), some (vi (w1)), some (vi (w2)), some (vi (w3)), some (vi (w4)), some (vi (w5)), some (vi ((nI (k + 1)))), none]) (fun j9 v9 h9 => by rcases j9 with _ | _ | _ | _ | _ | _ | _ | _ | j9 <;> first | exact h9 | (simp at h9)) ?_
        refine ih (k + 1) _ (by omega) zput_eq (fun j hj => ?_) (fun q h1 h2 => ?_) (fun i hi => ?_) (by omega)
        · rw [zput_nj hj, zput_ne (by omega)]; exact i3 j hj
        · rw [zput_nq h1, zput_nq h2]; exact i4 q h1 h2
        · rw [zput_ne (by omega)]
          by_cases e : i = f + k
          · subst e; rw [zput_eq, e9]
          · rw [zput_nj e]; exact i5 i (by omega)
set_option maxRecDepth 20000 in
theorem zq_X8_append {l : Launch} {D : va_G} {b0 : Nat} {tA : Nat → ClassId} {sa sv : Nat → Nat} {K : Nat → Option Nat} {I : zI} {Qp : zI → Option AV → Prop} {Xp : String → zI → Prop} {F9 : zI} {y f : Nat} {t : Nat → Nat} {er : Int32} {S : zS} {U : List zS} {w1 w2 w3 w4 w5 : Int32}
    (hC : zRf F9 I y t f er S U) (k1 : f ≤ 480 → ∀ J : zI, zRf F9 J y (tApp t f w1 w2 w3 w4 w5) (f + 20) er S U → J y 0 = 0 → Qp J (some (vi (nI (f + 20))))) (k2 : ¬ f ≤ 480 → ∀ J : zI, zRf F9 J y t f er S U → J y 0 = 0 → Qp J (some (vi (-1)))) :
    zC l D b0 tA sa sv K yX8_append (.code yX8_append cX8_append 8 (some .int)) zrm_X8_append [vr (y) 8, vi (w1), vi (w2), vi (w3), vi (w4), vi (w5)] I Qp Xp := by
  have hC1 : zRf F9 (zput I y 0 0) y t f er S U := hC.put (by decide)
  have hW := hC.2.2.2.1
  have hg6 := hW.ng.1
  have hc12 := hW.nc.1
  have hf5 := hC.1.2.1
  refine zC_of (by decide +kernel) (Nat.le_of_ble_eq_true rfl) ?_
  intro p e s m args below meth c X hnt
  have X : zX p l e zrm_X8_append s m args below meth c RX8 cX8_append 8 (some .int) D b0 tA sa sv := X
  refine zr_lv (lv2 := [some (vr (y) 8), some (vi (w1)), some (vi (w2)), some (vi (w3)), some (vi (w4)), some (vi (w5)), none, none]) rfl ?_
  refine zr_aload0 X dX8_append_0 ?_
  refine zr_iconst (v := (0 : Int32)) X dX8_append_1 (by decide) ?_
  refine zr_putI X zf_X8_31 rfl (Or.inl rfl) dX8_append_2 ?_
  refine zr_aload0 X dX8_append_5 ?_
  refine zr_getI X zf_X8_98 rfl dX8_append_6 ?_
  refine zr_eq (x2 := (I (y) 2)) ((zput_nj (by decide))) ?_
  refine zr_eq (x2 := (nI f)) (hC.1.1) ?_
  refine zr_bipush (v := (20 : Int32)) X dX8_append_9 (by decide) ?_
  refine zr_iadd X dX8_append_11 ?_
  refine zr_eq (x2 := (nI (f + 20))) (nI_add (f) (20)) ?_
  refine zr_sipush (v := (500 : Int32)) X dX8_append_12 (by decide) ?_
  refine zr_nicmp_le X ((f + 20)) (500) (tgt := 20) (by omega) (by omega) dX8_append_15 (by decide) (fun h1 => ?_) (fun h1 => ?_)
  · skip
    refine zr_iconst (v := (0 : Int32)) X dX8_append_20 (by decide) ?_
    refine zr_istore6 X (by decide) rfl dX8_append_21 ?_
    exact zl_X8_append X hnt hC1 (by omega) (fun J h1 h2 => k1 (by omega) J h1 (h2.trans zput_eq)) 21 0 _ (by omega) hC1.1.1 (fun _ _ => rfl) (fun _ _ _ => rfl) (fun i hi => by rw [tApp_lo (by omega)]; exact hC1.1.2.2.2 i (by omega)) (by omega)
  · skip
    refine zr_iconst (v := (-1 : Int32)) X dX8_append_18 (by decide) ?_
    refine zr_iret X (by decide) (by decide) dX8_append_19 ?_
    exact k2 (by omega) _ hC1 zput_eq
abbrev zrm_X8_throughIn : Room := { frames := 6, cells := 0, slots := 0, locals := 138 }
/-- from S to T no card's passages have grown by more than b -/
def zUp (S T : zS) (b : Nat) : Prop := ∀ (c k : Nat), sC S c 3 = nI k → ∃ d : Nat, d ≤ b ∧ sC T c 3 = nI (k + d)
theorem zUp.rf {S T : zS} (h : ∀ c, sC T c 3 = sC S c 3) : zUp S T 0 := fun c k e => ⟨0, Nat.le_refl _, (h c).trans e⟩
theorem zUp.tr {S T V : zS} {a b : Nat} (h : zUp S T a) (g : zUp T V b) : zUp S V (a + b) := fun c k e => by
  obtain ⟨d, d1, d2⟩ := h c k e
  obtain ⟨d', d3, d4⟩ := g c (k + d) d2
  exact ⟨d + d', by omega, by rw [d4, Nat.add_assoc]⟩
theorem zUp.le {S T : zS} {a b : Nat} (h : zUp S T a) (hab : a ≤ b) : zUp S T b := fun c k e => by
  obtain ⟨d, d1, d2⟩ := h c k e
  exact ⟨d, by omega, d2⟩
theorem zUp_passed {S : zS} {c s : Nat} : zUp S (qPassed S c s) 1 := fun c9 k e => by
  have e9 : sC (qPassed S c s) c9 3 = if c9 = c then sC S c 3 + 1 else sC S c9 3 := by
    unfold qPassed
    rw [tC_C]
    by_cases h : c9 = c
    · rw [if_pos ⟨h, rfl⟩, if_pos h]
    · rw [if_neg (fun z => h z.1), if_neg h]
      split <;> simp [tC_C]
  rw [e9]
  split
  · rename_i h; subst h; exact ⟨1, Nat.le_refl _, by rw [e, nI_1]⟩
  · exact ⟨0, Nat.zero_le _, e⟩
theorem zUp_gone {S : zS} {w s : Nat} : zUp S (qGone S w s) 1 := by
  unfold qGone
  split <;> split
  · exact (zUp.rf (fun _ => rfl)).le (Nat.zero_le _)
  · exact fun c k e => zUp_passed c k e
  · exact (zUp.rf (fun _ => rfl)).le (Nat.zero_le _)
  · exact fun c k e => zUp_passed c k e
theorem zUp_goes {S : zS} {g s : Nat} : zUp S (qGoes S g s) 1 := fun c k e => zUp_gone (S := tL S g s ((sL S g s).eraseIdx 0)) c k e
theorem zUp_flee {g : Nat} : ∀ (f : Nat) (S : zS), zUp S (qFlee S g f) f
  | 0, S => zUp.rf (fun _ => rfl)
  | f + 1, S => by
    rw [qFlee]
    split
    · exact (zUp.rf (fun _ => rfl)).le (Nat.zero_le _)
    · have h1 : zUp S (qFlee1 S g) 1 := fun c k e => zUp_goes c k e
      exact (h1.tr (zUp_flee f _)).le (by omega)
theorem zUp_less {S : zS} {g : Nat} : zUp S (qLess S g) 0 := zUp.rf (fun c => by unfold qLess; split <;> rfl)
theorem zUp_pass {S : zS} {g : Nat} : zUp S (qPass S g) 1 := by
  unfold qPass
  split
  · have h1 : zUp S (tG (qGoes S g (qSide S g)) g 3 0) 1 := fun c k e => zUp_goes c k e
    exact h1.tr zUp_less
  · split
    · have h1 : zUp S (qFoll S g (qSide S g)) 1 := fun c k e => zUp_goes c k e
      exact h1.tr zUp_less
    · exact zUp_less.le (Nat.zero_le _)
theorem zUp_open {S : zS} {g : Nat} : zUp S (qOpen S g) 0 := zUp.rf (fun c => by
  unfold qOpen
  split
  · unfold qOpenAt
    split
    · rfl
    · unfold qAway; split <;> rfl
  · rfl)
theorem zUp_live {S : zS} {g : Nat} (hW : zWf S) : zUp S (qLive S g) 4 := by
  obtain ⟨f, f1, f4, fe⟩ := hW.flow
  unfold qLive
  split
  · rw [fe, nI_clamp (by omega)]; exact (zUp_flee f S).le f4
  · split
    · exact zUp_pass.le (by omega)
    · exact zUp_open.le (Nat.zero_le _)
theorem zUp_gates {S : zS} (hW : zWf S) : ∀ n, zUp S (qGates S n) (4 * n)
  | 0 => zUp.rf (fun _ => rfl)
  | n + 1 => ((zUp_gates hW n).tr (zUp_live (zWf_gates hW n))).le (by omega)
theorem zUp_tick {S : zS} (hW : zWf S) : zUp S (qTick S) 24 := by
  have h := zUp_gates hW 6
  unfold qTick
  generalize qGates S 6 = T at h ⊢
  exact fun c k e => h c k e
theorem zUp_ticks {S : zS} (hW : zWf S) : ∀ n, zUp S (qTicks S n) (24 * n)
  | 0 => zUp.rf (fun _ => rfl)
  | n + 1 => by
    have h := (zUp_ticks hW n).tr (zUp_tick (zWf_ticks hW n))
    exact h.le (by omega)
theorem zpas_le {S : zS} {c n : Nat} (hW : zWf S) (hB : ∃ k, k ≤ 1000000000 ∧ sC S c 3 = nI k) (hn : n ≤ 201) : (sC (qTicks S n) c 3 ≤ sC S c 3) ↔ sC (qTicks S n) c 3 = sC S c 3 := by
  obtain ⟨k, k1, k2⟩ := hB
  obtain ⟨d, d1, d2⟩ := zUp_ticks hW n c k k2
  rw [d2, k2, nI_leI (by omega) (by omega), nI_eq (by omega) (by omega)]
  omega
set_option maxRecDepth 20000 in
theorem zl_X8_throughIn {l : Launch} {D : va_G} {b0 : Nat} {tA : Nat → ClassId} {sa sv : Nat → Nat} {K : Nat → Option Nat} {I : zI} {Qp : zI → Option AV → Prop} {Xp : String → zI → Prop} {p : Program} {e : Env} {s : State} {m : MethodId} {args : Array Value} {below : List Frame} {meth : Method} {c : Code} {F9 : zI} {y f : Nat} {t : Nat → Nat} {er : Int32} {S : zS} {U : List zS} {c9 : Nat}
    (X : zX p l e zrm_X8_throughIn s m args below meth c RX8 cX8_throughIn 3 (some .int) D b0 tA sa sv) (hnt : ∀ x ∈ c.exceptionTable.toList, False) (hC : zRf F9 I y t f er S U) (h00 : I y 0 = 0) (hc : c9 < znc S) (hB : ∃ k, k ≤ 1000000000 ∧ sC S c9 3 = nI k) (k1 : ∀ J : zI, zRf F9 J y t f er S U → J y 0 = 0 → Qp J (some (vi (qThrough S c9)))) :
    ∀ (n : Nat) (k : Nat) (J : zI), k ≤ 200 → zag I J (y + 4) 1 → zMd J (y + 4) (qTicks S k) → (∀ i, i < k → qTm S c9 (i + 1) = sC S c9 3) → 200 - k < n → zG p l e zrm_X8_throughIn s m args below meth c 3 D b0 tA sa 0 0 (zQ below D b0 tA sa K args s zrm_X8_throughIn Qp Xp) K 52 [some (vr (y) 8), some (vi ((nI c9))), some (vi ((nI (k + 1))))] [] J := by
  intro n
  induction n with
  | zero => intro k J i1 i2 i3 i4 i9; exact absurd i9 (Nat.not_lt_zero _)
  | succ n ih =>
    intro k J i1 i2 i3 i4 i9
    have hW := hC.2.2.2.1
    have hg6 := hW.ng.1
    have hc12 := hW.nc.1
    refine zr_iload2 X dX8_throughIn_52 ?_
    refine zr_sipush (v := (200 : Int32)) X dX8_throughIn_53 (by decide) ?_
    refine zr_nicmp_gt X ((k + 1)) (200) (tgt := 98) (by omega) (by omega) dX8_throughIn_56 (by decide) (fun h1 => ?_) (fun h1 => ?_)
    · skip
      refine zr_iconst (v := (-1 : Int32)) X dX8_throughIn_98 (by decide) ?_
      refine zr_iret X (by decide) (by decide) dX8_throughIn_99 ?_
      have hag : zag I J (y + 4) 1 := by repeat (first | exact zag.rf | assumption | refine zag.put ?_ (by omega) (by omega) | refine zag.tr ?_ (by assumption) (by omega) (by omega))
      have e9 : qThrough S c9 = -1 := zFst_no (fun i hi => i4 i (by omega))
      rw [e9] at k1; exact k1 _ (hC.aside hag (by omega) (by omega)) ((congrFun (hag y (by omega)) 0).trans h00)
    · skip
      refine zr_aload0 X dX8_throughIn_59 ?_
      refine zr_getR X zf_X8_23 rfl (by decide) (by decide) dX8_throughIn_60 ?_
      refine zr_iconst (v := (1 : Int32)) X dX8_throughIn_63 (by decide) ?_
      refine zr_callS2 (rm9 := zrm_X8_lives) X hnt zm_X8_208 (by decide) (by decide) (by decide) (Nat.le_of_ble_eq_true rfl) dX8_throughIn_64 ?_
      refine zp_X8_lives (m9 := 1) i3 (zWf_ticks hW k) (by omega) ?_
      intro J4 hg5 hT6; rw [qTicks_1, ← qTicks_s] at hT6
      refine zr_aload0 X dX8_throughIn_67 ?_
      refine zr_getR X zf_X8_23 rfl (by decide) (by decide) dX8_throughIn_68 ?_
      refine zr_iload1 X dX8_throughIn_71 ?_
      refine zr_iconst (v := (3 : Int32)) X dX8_throughIn_72 (by decide) ?_
      refine zr_callS2 (rm9 := zrm_X8_cardAt) X hnt zm_X8_61 (by decide) (by decide) (by decide) (Nat.le_of_ble_eq_true rfl) dX8_throughIn_73 ?_
      refine zn_X8_cardAt (g := c9) (w := 3) ?_
      refine zr_ialdN (n := 190 + 10 * c9 + 3) X rfl (show _ < 310 from (by first | assumption | omega | decide)) dX8_throughIn_76 ?_
      refine zr_eq (x2 := (sC (qTicks S (k + 1)) c9 3)) ((hT6.2.2 c9 (by omega)).1 3 (by decide)) ?_
      refine zr_aload0 X dX8_throughIn_77 ?_
      refine zr_getR X zf_X8_17 rfl (by decide) (by decide) dX8_throughIn_78 ?_
      refine zr_iload1 X dX8_throughIn_81 ?_
      refine zr_iconst (v := (3 : Int32)) X dX8_throughIn_82 (by decide) ?_
      refine zr_callS2 (rm9 := zrm_X8_cardAt) X hnt zm_X8_61 (by decide) (by decide) (by decide) (Nat.le_of_ble_eq_true rfl) dX8_throughIn_83 ?_
      refine zn_X8_cardAt (g := c9) (w := 3) ?_
      refine zr_ialdN X rfl (show _ < 310 from (by first | assumption | omega)) dX8_throughIn_86 ?_
      refine zr_eq (x2 := (sC S c9 3)) (((hC.2.2.1.ag (lo := y + 4) (n := 1) (show zag I J4 (y + 4) 1 by repeat (first | exact zag.rf | assumption | refine zag.put ?_ (by omega) (by omega) | refine zag.tr ?_ (by assumption) (by omega) (by omega))) (by omega)).2.2 c9 (by omega)).1 3 (by decide)) ?_
      refine zr_icmp_le (tgt := 92) X dX8_throughIn_87 (by decide) (fun h2 => ?_) (fun h2 => ?_)
      · skip
        refine zr_iinc2 (v := (nI ((k + 1) + 1))) X (show nI ((k + 1)) + Int32.ofInt 1 = nI ((k + 1) + 1) from nI_1 ((k + 1))) (by decide) rfl dX8_throughIn_92 ?_
        refine zr_goto (tgt := 52) X dX8_throughIn_95 (by decide) ?_
        have e8 : qTm S c9 (k + 1) = sC S c9 3 := (zpas_le hW hB (by omega)).mp h2
        exact ih (k + 1) _ (by omega) (by repeat (first | exact zag.rf | assumption | refine zag.put ?_ (by omega) (by omega) | refine zag.tr ?_ (by assumption) (by omega) (by omega))) hT6 (fun i hi => by rcases Nat.lt_succ_iff_lt_or_eq.mp hi with q | rfl; exact i4 i q; exact e8) (by omega)
      · skip
        refine zr_iload2 X dX8_throughIn_90 ?_
        refine zr_iret X (by decide) (by decide) dX8_throughIn_91 ?_
        have hag : zag I J4 (y + 4) 1 := by repeat (first | exact zag.rf | assumption | refine zag.put ?_ (by omega) (by omega) | refine zag.tr ?_ (by assumption) (by omega) (by omega))
        have e9 : qThrough S c9 = nI (k + 1) := zFst_is (by omega) (fun z => h2 ((zpas_le hW hB (by omega)).mpr z)) i4
        rw [e9] at k1; exact k1 _ (hC.aside hag (by omega) (by omega)) ((congrFun (hag y (by omega)) 0).trans h00)
set_option maxRecDepth 20000 in
theorem zo_X8_throughIn {l : Launch} {D : va_G} {b0 : Nat} {tA : Nat → ClassId} {sa sv : Nat → Nat} {K : Nat → Option Nat} {I : zI} {Qp : zI → Option AV → Prop} {Xp : String → zI → Prop} {F9 : zI} {y f : Nat} {t : Nat → Nat} {er : Int32} {S : zS} {U : List zS} {c9 : Nat}
    (hC : zRf F9 I y t f er S U) (hc : c9 < znc S) (hB : ∃ k, k ≤ 1000000000 ∧ sC S c9 3 = nI k) (k1 : ∀ J : zI, zRf F9 J y t f er S U → J y 0 = 0 → Qp J (some (vi (if qPos S c9 = none then -1 else qThrough S c9)))) :
    zC l D b0 tA sa sv K yX8_throughIn (.code yX8_throughIn cX8_throughIn 3 (some .int)) zrm_X8_throughIn [vr (y) 8, vi ((nI c9))] I Qp Xp := by
  have hC1 : zRf F9 (zput I y 0 0) y t f er S U := hC.put (by decide)
  have hW := hC.2.2.2.1
  have hg6 := hW.ng.1
  have hc12 := hW.nc.1
  have hf5 := hC.1.2.1
  refine zC_of (by decide +kernel) (Nat.le_of_ble_eq_true rfl) ?_
  intro p e s m args below meth c X hnt
  have X : zX p l e zrm_X8_throughIn s m args below meth c RX8 cX8_throughIn 3 (some .int) D b0 tA sa sv := X
  refine zr_lv (lv2 := [some (vr (y) 8), some (vi ((nI c9))), none]) rfl ?_
  refine zr_aload0 X dX8_throughIn_0 ?_
  refine zr_iconst (v := (0 : Int32)) X dX8_throughIn_1 (by decide) ?_
  refine zr_putI X zf_X8_31 rfl (Or.inl rfl) dX8_throughIn_2 ?_
  refine zr_aload0 X dX8_throughIn_5 ?_
  refine zr_iload1 X dX8_throughIn_6 ?_
  refine zr_callV1 (rm9 := zrm_X8_noCard) X hnt zm_X8_248 (by decide) (by decide) (by decide) (Nat.le_of_ble_eq_true rfl) dX8_throughIn_7 ?_
  refine zo_X8_noCard hC1.2.2.1 hW (zput_eq) (by omega) ?_
  refine zr_if_ne (tgt := 26) X dX8_throughIn_10 (by decide) (fun h => absurd h (by decide)) (fun _ => ?_)
  refine zr_aload0 X dX8_throughIn_13 ?_
  refine zr_getR X zf_X8_17 rfl (by decide) (by decide) dX8_throughIn_14 ?_
  refine zr_iload1 X dX8_throughIn_17 ?_
  refine zr_iconst (v := (3 : Int32)) X dX8_throughIn_18 (by decide) ?_
  refine zr_callS3 (rm9 := zrm_X8_whereIs) X hnt zm_X8_50 (by decide) (by decide) (by decide) (Nat.le_of_ble_eq_true rfl) dX8_throughIn_19 ?_
  refine zp_X8_whereIs (c9 := c9) (w9 := 3) hC1.2.2.1 hW (by omega) (by omega) ?_
  refine zr_iconst (v := (-1 : Int32)) X dX8_throughIn_22 (by decide) ?_
  refine zr_icmp_ne (tgt := 39) X dX8_throughIn_23 (by decide) (fun h1 => ?_) (fun h1 => ?_)
  · skip
    refine zr_aload0 X dX8_throughIn_39 ?_
    refine zr_getR X zf_X8_17 rfl (by decide) (by decide) dX8_throughIn_40 ?_
    refine zr_aload0 X dX8_throughIn_43 ?_
    refine zr_getR X zf_X8_23 rfl (by decide) (by decide) dX8_throughIn_44 ?_
    refine zr_callS2 (rm9 := zrm_X8_copy) X hnt zm_X8_232 (by decide) (by decide) (by decide) (Nat.le_of_ble_eq_true rfl) dX8_throughIn_47 ?_
    refine zp_X8_copy (S := S) (by omega) hC1.2.2.1 ?_
    intro J7 hg8 hM9
    refine zr_iconst (v := (1 : Int32)) X dX8_throughIn_50 (by decide) ?_
    refine zr_istore2 X (by decide) rfl dX8_throughIn_51 ?_
    rw [if_neg (fun z => h1 ((qWh_3n hW).mpr z))] at k1
    exact zl_X8_throughIn X hnt hC1 zput_eq hc hB k1 201 0 _ (by omega) (zag.rf.tr hg8 (by omega) (by omega)) hM9 (fun i hi => absurd hi (Nat.not_lt_zero _)) (by omega)
  · skip
    refine zr_aload0 X dX8_throughIn_26 ?_
    refine zr_getI X zf_X8_31 rfl dX8_throughIn_27 ?_
    refine zr_eq (x2 := (0 : Int32)) (zput_eq) ?_
    refine zr_if_eq (tgt := 37) X dX8_throughIn_30 (by decide) (fun _ => ?_) (fun h => absurd h (by decide))
    refine zr_iconst (v := (-1 : Int32)) X dX8_throughIn_37 (by decide) ?_
    refine zr_iret X (by decide) (by decide) dX8_throughIn_38 ?_
    rw [if_pos ((qWh_3n hW).mp h1)] at k1; exact k1 _ hC1 zput_eq
set_option maxRecDepth 20000 in
theorem zx_X8_throughIn {l : Launch} {D : va_G} {b0 : Nat} {tA : Nat → ClassId} {sa sv : Nat → Nat} {K : Nat → Option Nat} {I : zI} {Qp : zI → Option AV → Prop} {Xp : String → zI → Prop} {F9 : zI} {y f : Nat} {t : Nat → Nat} {er : Int32} {S : zS} {U : List zS} {v : Int32}
    (hC : zRf F9 I y t f er S U) (hb : vIdx v (znc S) = none) (kx : ∀ (J : zI) (v9 : Int32), zRf F9 J y t f er S U → J y 0 = 1 → Qp J (some (vi v9))) :
    zC l D b0 tA sa sv K yX8_throughIn (.code yX8_throughIn cX8_throughIn 3 (some .int)) zrm_X8_throughIn [vr (y) 8, vi (v)] I Qp Xp := by
  have hC1 : zRf F9 (zput I y 0 0) y t f er S U := hC.put (by decide)
  have hW := hC.2.2.2.1
  have hg6 := hW.ng.1
  have hc12 := hW.nc.1
  have hf5 := hC.1.2.1
  refine zC_of (by decide +kernel) (Nat.le_of_ble_eq_true rfl) ?_
  intro p e s m args below meth c X hnt
  have X : zX p l e zrm_X8_throughIn s m args below meth c RX8 cX8_throughIn 3 (some .int) D b0 tA sa sv := X
  refine zr_lv (lv2 := [some (vr (y) 8), some (vi (v)), none]) rfl ?_
  refine zr_aload0 X dX8_throughIn_0 ?_
  refine zr_iconst (v := (0 : Int32)) X dX8_throughIn_1 (by decide) ?_
  refine zr_putI X zf_X8_31 rfl (Or.inl rfl) dX8_throughIn_2 ?_
  refine zr_aload0 X dX8_throughIn_5 ?_
  refine zr_iload1 X dX8_throughIn_6 ?_
  refine zr_callV1 (rm9 := zrm_X8_noCard) X hnt zm_X8_248 (by decide) (by decide) (by decide) (Nat.le_of_ble_eq_true rfl) dX8_throughIn_7 ?_
  refine zx_X8_noCard hC1.2.2.1 hW (zput_eq) (by assumption) ?_
  refine zr_if_ne (tgt := 26) X dX8_throughIn_10 (by decide) (fun _ => ?_) (fun h => absurd h (by decide))
  refine zr_aload0 X dX8_throughIn_26 ?_
  refine zr_getI X zf_X8_31 rfl dX8_throughIn_27 ?_
  refine zr_eq (x2 := (1 : Int32)) (zput_eq) ?_
  refine zr_if_eq (tgt := 37) X dX8_throughIn_30 (by decide) (fun h => absurd h (by decide)) (fun _ => ?_)
  refine zr_iconst (v := (0 : Int32)) X dX8_throughIn_33 (by decide) ?_
  refine zr_goto (tgt := 38) X dX8_throughIn_34 (by decide) ?_
  refine zr_iret X (by decide) (by decide) dX8_throughIn_38 ?_
  exact kx _ _ (hC1.put (by decide)) zput_eq
theorem zq_X8_throughIn {l : Launch} {D : va_G} {b0 : Nat} {tA : Nat → ClassId} {sa sv : Nat → Nat} {K : Nat → Option Nat} {I : zI} {Qp : zI → Option AV → Prop} {Xp : String → zI → Prop} {F9 : zI} {y f : Nat} {t : Nat → Nat} {er : Int32} {S : zS} {U : List zS} {v : Int32}
    (hC : zRf F9 I y t f er S U) (hB : ∀ c, ∃ k, k ≤ 1000000000 ∧ sC S c 3 = nI k) (k0 : (rThrough S v).1 = 0 → ∀ J : zI, zRf F9 J y t f er S U → J y 0 = 0 → Qp J (some (vi (rThrough S v).2))) (kx1 : (rThrough S v).1 = 1 → ∀ (J : zI) (v9 : Int32), zRf F9 J y t f er S U → J y 0 = 1 → Qp J (some (vi v9))) :
    zC l D b0 tA sa sv K yX8_throughIn (.code yX8_throughIn cX8_throughIn 3 (some .int)) zrm_X8_throughIn [vr (y) 8, vi (v)] I Qp Xp := by
  unfold rThrough at k0 kx1
  cases e1 : vIdx v (znc S) with
  | none => rw [e1] at kx1; exact zx_X8_throughIn hC e1 (kx1 rfl)
  | some c =>
    rw [e1] at k0
    obtain ⟨h1, rfl⟩ := vIdx_some e1
    exact zo_X8_throughIn hC h1 (hB c) (k0 rfl)
