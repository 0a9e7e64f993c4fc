/-! ===== the class's tokens ===== -/
theorem tSkip_in {t : Nat → Nat} {n p q : Nat} (h1 : p ≤ q) (h2 : q ≤ tSkip t n p) (h3 : q < n) : t q = 32 ↔ q < tSkip t n p := by
  have := zrun_in (f := fun q => decide (t q = 32)) h1 h2 h3
  rw [decide_eq_true_iff] at this
  exact this
theorem tSkip_of {t : Nat → Nat} {n p q : Nat} (hp : p ≤ n) (h1 : p ≤ q) (h2 : q ≤ tSkip t n p) (h : n ≤ q ∨ ¬ t q = 32) : tSkip t n p = q := by
  have h9 := tSkip_le (t := t) hp
  rcases h with h | h
  · omega
  · rcases Nat.lt_or_ge q (tSkip t n p) with g | g
    · exact absurd ((tSkip_in h1 h2 (by omega)).mpr g) h
    · omega
abbrev zrm_X3_advance : Room := { frames := 2, cells := 0, slots := 0, locals := 44 }
set_option maxRecDepth 20000 in
theorem zl_X3_advance {l : Launch} {D : va_G} {b0 : Nat} {tA : Nat → ClassId} {sa sv : Nat → Nat} {K : zKt} {I : zI} {Qp : zI → Option AV → Prop} {Xp : String → zI → Prop} {p : Program} {e : Env} {s : State} {m : MethodId} {args : Array Value} {below : List Frame} {meth : Method} {c : Code} {a n9 p9 f : Nat} {t : Nat → Nat}
    (X : zX p l e zrm_X3_advance s m args below meth c RX3 cX3_advance 2 none D b0 tA sa sv) (hnt : ∀ x ∈ c.exceptionTable.toList, False) (hn : n9 ≤ f) (hp : p9 ≤ n9) (hB9 : ∀ k, t k < 256) (hf5 : f ≤ 500) (k1 : ∀ J : zI, zag I J a 1 → zBy J a t f → zTok J a t n9 (tSkip t n9 p9) → Qp J none) :
    ∀ (n : Nat) (q : Nat) (J : zI), p9 ≤ q → q ≤ tSkip t n9 p9 → zag I J a 1 → zBy J a t f → J a 2 = nI n9 → J a 3 = nI q → tSkip t n9 p9 - q < n → zG p l e zrm_X3_advance s m args below meth c 2 D b0 tA sa 0 0 (zQ below D b0 tA sa K args s zrm_X3_advance Qp Xp) K 0 [some (vr (a) 3), none] [] J := by
  intro n
  induction n with
  | zero => intro q J i0 i1 i2 jB j2 i4 i9; exact absurd i9 (Nat.not_lt_zero _)
  | succ n ih =>
    intro q J i0 i1 i2 jB j2 i4 i9
    have hE := tSkip_le (t := t) hp
    refine zr_aload0 X dX3_advance_0 ?_
    refine zr_getI X zf_X3_22 rfl dX3_advance_1 ?_
    refine zr_eq (x2 := (nI q)) (i4) ?_
    refine zr_aload0 X dX3_advance_4 ?_
    refine zr_getI X zf_X3_19 rfl dX3_advance_5 ?_
    refine zr_eq (x2 := (nI n9)) (j2) ?_
    refine zr_nicmp_ge X (q) (n9) (tgt := 37) (by omega) (by omega) dX3_advance_8 (by decide) (fun h1 => ?_) (fun h1 => ?_)
    · skip
      refine zr_aload0 X dX3_advance_37 ?_
      refine zr_aload0 X dX3_advance_38 ?_
      refine zr_getI X zf_X3_22 rfl dX3_advance_39 ?_
      refine zr_eq (x2 := (nI q)) (i4) ?_
      refine zr_putI X zf_X3_32 rfl (Or.inl rfl) dX3_advance_42 ?_
      refine zr_aload0 X dX3_advance_45 ?_
      refine zr_aload0 X dX3_advance_46 ?_
      refine zr_getI X zf_X3_22 rfl dX3_advance_47 ?_
      refine zr_eq (x2 := (J (a) 3)) ((zput_nj (by decide))) ?_
      refine zr_eq (x2 := (nI q)) (i4) ?_
      refine zr_callV1 (rm9 := zrm_X3_byteAt) X hnt zm_X3_28 (by decide) (by decide) (by decide) (Nat.le_of_ble_eq_true rfl) dX3_advance_50 ?_
      refine zn_X3_byteAt (t := t) (f := f) (k := q) (by repeat (first | assumption | refine zBy.put ?_ (by decide))) (by omega) ?_
      refine zr_istore1 X (by decide) rfl dX3_advance_53 ?_
      refine zr_aload0 X dX3_advance_54 ?_
      refine zr_getI X zf_X3_22 rfl dX3_advance_55 ?_
      refine zr_eq (x2 := (J (a) 3)) ((zput_nj (by decide))) ?_
      refine zr_eq (x2 := (nI q)) (i4) ?_
      refine zr_aload0 X dX3_advance_58 ?_
      refine zr_getI X zf_X3_19 rfl dX3_advance_59 ?_
      refine zr_eq (x2 := (J (a) 2)) ((zput_nj (by decide))) ?_
      refine zr_eq (x2 := (nI n9)) (j2) ?_
      refine zr_nicmp_lt X (q) (n9) (tgt := 73) (by omega) (by omega) dX3_advance_62 (by decide) (fun h2 => ?_) (fun h2 => ?_)
      · exact absurd h2 (by omega)
      · skip
        refine zr_aload0 X dX3_advance_65 ?_
        refine zr_iconst (v := (0 : Int32)) X dX3_advance_66 (by decide) ?_
        refine zr_putI X zf_X3_35 rfl (Or.inl rfl) dX3_advance_67 ?_
        refine zr_goto (tgt := 136) X dX3_advance_70 (by decide) ?_
        refine zr_vret X (by decide) (by decide) dX3_advance_136 ?_
        have hq : tSkip t n9 p9 = q := tSkip_of hp i0 i1 (by first | exact Or.inl (by omega) | exact Or.inr (fun z => absurd ((zsg_all _ (hB9 q)).1.mpr z) (by assumption)))
        refine k1 _ ?_ ?_ ?_
        · repeat (first | exact zag.rf | assumption | refine zag.put ?_ (by omega) (by omega) | refine zag.tr ?_ (by assumption) (by omega) (by omega))
        · repeat (first | assumption | refine zBy.put ?_ (by decide))
        rw [hq]
        have hkd : tKind t n9 q = 0 := by rw [tKind, if_pos (by omega)]
        have hen : tEnd t n9 q = q := by rw [tEnd, if_pos (by omega)]
        refine ⟨by omega, ((zput_nj (by decide)).trans ((zput_nj (by decide)))).trans j2, (zput_nj (by decide)).trans (zput_eq), by rw [hkd]; exact zput_eq, by rw [hen]; exact ((zput_nj (by decide)).trans ((zput_nj (by decide)))).trans i4, fun h => ?_, fun h => ?_⟩
        · rw [hkd] at h; cases h
        · rw [hkd] at h; cases h
    · skip
      refine zr_aload0 X dX3_advance_11 ?_
      refine zr_aload0 X dX3_advance_12 ?_
      refine zr_getI X zf_X3_22 rfl dX3_advance_13 ?_
      refine zr_eq (x2 := (nI q)) (i4) ?_
      refine zr_callV1 (rm9 := zrm_X3_byteAt) X hnt zm_X3_28 (by decide) (by decide) (by decide) (Nat.le_of_ble_eq_true rfl) dX3_advance_16 ?_
      refine zn_X3_byteAt (t := t) (f := f) (k := q) (by repeat (first | assumption | refine zBy.put ?_ (by decide))) (by omega) ?_; rw [if_pos (show q < f by omega)]
      refine zr_bipush (v := (32 : Int32)) X dX3_advance_19 (by decide) ?_
      refine zr_icmp_ne (tgt := 37) X dX3_advance_21 (by decide) (fun h3 => ?_) (fun h3 => ?_)
      · skip
        refine zr_aload0 X dX3_advance_37 ?_
        refine zr_aload0 X dX3_advance_38 ?_
        refine zr_getI X zf_X3_22 rfl dX3_advance_39 ?_
        refine zr_eq (x2 := (nI q)) (i4) ?_
        refine zr_putI X zf_X3_32 rfl (Or.inl rfl) dX3_advance_42 ?_
        refine zr_aload0 X dX3_advance_45 ?_
        refine zr_aload0 X dX3_advance_46 ?_
        refine zr_getI X zf_X3_22 rfl dX3_advance_47 ?_
        refine zr_eq (x2 := (J (a) 3)) ((zput_nj (by decide))) ?_
        refine zr_eq (x2 := (nI q)) (i4) ?_
        refine zr_callV1 (rm9 := zrm_X3_byteAt) X hnt zm_X3_28 (by decide) (by decide) (by decide) (Nat.le_of_ble_eq_true rfl) dX3_advance_50 ?_
        refine zn_X3_byteAt (t := t) (f := f) (k := q) (by repeat (first | assumption | refine zBy.put ?_ (by decide))) (by omega) ?_; rw [if_pos (show q < f by omega)]
        refine zr_istore1 X (by decide) rfl dX3_advance_53 ?_
        refine zr_aload0 X dX3_advance_54 ?_
        refine zr_getI X zf_X3_22 rfl dX3_advance_55 ?_
        refine zr_eq (x2 := (J (a) 3)) ((zput_nj (by decide))) ?_
        refine zr_eq (x2 := (nI q)) (i4) ?_
        refine zr_aload0 X dX3_advance_58 ?_
        refine zr_getI X zf_X3_19 rfl dX3_advance_59 ?_
        refine zr_eq (x2 := (J (a) 2)) ((zput_nj (by decide))) ?_
        refine zr_eq (x2 := (nI n9)) (j2) ?_
        refine zr_nicmp_lt X (q) (n9) (tgt := 73) (by omega) (by omega) dX3_advance_62 (by decide) (fun h4 => ?_) (fun h4 => ?_)
        · skip
          refine zr_iload1 X dX3_advance_73 ?_
          refine zr_callS1 (rm9 := zrm_X3_isDigit) X hnt zm_X3_38 (by decide) (by decide) (by decide) (Nat.le_of_ble_eq_true rfl) dX3_advance_74 ?_
          refine zn_X3_isDigit (v := (t q)) (hB9 _) ?_ ?_
          · skip
            intro ht5
            refine zr_if_eq (tgt := 92) X dX3_advance_77 (by decide) (fun h => absurd h (by decide)) (fun _ => ?_)
            refine zr_aload0 X dX3_advance_80 ?_
            refine zr_iconst (v := (1 : Int32)) X dX3_advance_81 (by decide) ?_
            refine zr_putI X zf_X3_35 rfl (Or.inl rfl) dX3_advance_82 ?_
            refine zr_aload0 X dX3_advance_85 ?_
            refine zr_callV0 (rm9 := zrm_X3_readNumber) X hnt zm_X3_42 (by decide) (by decide) (by decide) (Nat.le_of_ble_eq_true rfl) dX3_advance_86 ?_
            refine zp_X3_readNumber (t := t) (f := f) (n9 := n9) (p9 := q) (by repeat (first | assumption | refine zBy.put ?_ (by decide))) hn (((zput_nj (by decide)).trans ((zput_nj (by decide)))).trans j2) (((zput_nj (by decide)).trans ((zput_nj (by decide)))).trans i4) (by omega) ?_
            intro J1 hg2 ho3 hv4 hv5
            refine zr_goto (tgt := 136) X dX3_advance_89 (by decide) ?_
            refine zr_vret X (by decide) (by decide) dX3_advance_136 ?_
            have hq : tSkip t n9 p9 = q := tSkip_of hp i0 i1 (by first | exact Or.inl (by omega) | exact Or.inr (fun z => absurd ((zsg_all _ (hB9 q)).1.mpr z) (by assumption)))
            refine k1 _ ?_ ?_ ?_
            · exact zag.tr (by repeat (first | exact zag.rf | assumption | refine zag.put ?_ (by omega) (by omega) | refine zag.tr ?_ (by assumption) (by omega) (by omega))) hg2 (Nat.le_refl _) (Nat.le_refl _)
            · have hb0 : zBy (zput (zput J (a) 5 ((nI q))) (a) 4 ((1 : Int32))) a t f := by repeat (first | assumption | refine zBy.put ?_ (by decide))
              exact ⟨(ho3 1 (by decide) (by decide)).trans hb0.1, hb0.2.1, hb0.2.2.1, fun k hk => by rw [hg2 (a + 1) (by omega)]; exact hb0.2.2.2 k hk⟩
            rw [hq]
            have hkd : tKind t n9 q = 1 := by rw [tKind, if_neg (by omega), if_pos (by assumption)]
            have hen : tEnd t n9 q = tEndD t n9 q := by rw [tEnd, if_neg (by omega), if_pos (by assumption)]
            refine ⟨by omega, ((ho3 2 (by decide) (by decide)).trans ((zput_nj (by decide)).trans ((zput_nj (by decide))))).trans j2, (ho3 5 (by decide) (by decide)).trans ((zput_nj (by decide)).trans (zput_eq)), by rw [hkd]; exact (ho3 4 (by decide) (by decide)).trans (zput_eq), by rw [hen]; exact hv4, fun h => ?_, fun h => ?_⟩
            · exact hv5
            · rw [hkd] at h; cases h
          · skip
            intro ht5
            refine zr_if_eq (tgt := 92) X dX3_advance_77 (by decide) (fun _ => ?_) (fun h => absurd h (by decide))
            refine zr_iload1 X dX3_advance_92 ?_
            refine zr_callS1 (rm9 := zrm_X3_isLetter) X hnt zm_X3_45 (by decide) (by decide) (by decide) (Nat.le_of_ble_eq_true rfl) dX3_advance_93 ?_
            refine zn_X3_isLetter (v := (t q)) (hB9 _) ?_ ?_
            · skip
              intro ht6
              refine zr_if_eq (tgt := 111) X dX3_advance_96 (by decide) (fun h => absurd h (by decide)) (fun _ => ?_)
              refine zr_aload0 X dX3_advance_99 ?_
              refine zr_iconst (v := (2 : Int32)) X dX3_advance_100 (by decide) ?_
              refine zr_putI X zf_X3_35 rfl (Or.inl rfl) dX3_advance_101 ?_
              refine zr_aload0 X dX3_advance_104 ?_
              refine zr_callV0 (rm9 := zrm_X3_readWord) X hnt zm_X3_48 (by decide) (by decide) (by decide) (Nat.le_of_ble_eq_true rfl) dX3_advance_105 ?_
              refine zp_X3_readWord (t := t) (f := f) (n9 := n9) (p9 := q) (by repeat (first | assumption | refine zBy.put ?_ (by decide))) hn (((zput_nj (by decide)).trans ((zput_nj (by decide)))).trans j2) (((zput_nj (by decide)).trans ((zput_nj (by decide)))).trans i4) (by omega) ?_
              intro J6 hg7 ho8 hv9 hv10 hv11
              refine zr_goto (tgt := 136) X dX3_advance_108 (by decide) ?_
              refine zr_vret X (by decide) (by decide) dX3_advance_136 ?_
              have hq : tSkip t n9 p9 = q := tSkip_of hp i0 i1 (by first | exact Or.inl (by omega) | exact Or.inr (fun z => absurd ((zsg_all _ (hB9 q)).1.mpr z) (by assumption)))
              refine k1 _ ?_ ?_ ?_
              · exact zag.tr (by repeat (first | exact zag.rf | assumption | refine zag.put ?_ (by omega) (by omega) | refine zag.tr ?_ (by assumption) (by omega) (by omega))) hg7 (Nat.le_refl _) (Nat.le_refl _)
              · have hb0 : zBy (zput (zput J (a) 5 ((nI q))) (a) 4 ((2 : Int32))) a t f := by repeat (first | assumption | refine zBy.put ?_ (by decide))
                exact ⟨(ho8 1 (by decide) (by decide) (by decide)).trans hb0.1, hb0.2.1, hb0.2.2.1, fun k hk => by rw [hg7 (a + 1) (by omega)]; exact hb0.2.2.2 k hk⟩
              rw [hq]
              have hkd : tKind t n9 q = 2 := by rw [tKind, if_neg (by omega), if_neg (by simp [*]), if_pos (by assumption)]
              have hen : tEnd t n9 q = tEndL t n9 q := by rw [tEnd, if_neg (by omega), if_neg (by simp [*]), if_pos (by assumption)]
              refine ⟨by omega, ((ho8 2 (by decide) (by decide) (by decide)).trans ((zput_nj (by decide)).trans ((zput_nj (by decide))))).trans j2, (ho8 5 (by decide) (by decide) (by decide)).trans ((zput_nj (by decide)).trans (zput_eq)), by rw [hkd]; exact (ho8 4 (by decide) (by decide) (by decide)).trans (zput_eq), by rw [hen]; exact hv9, fun h => ?_, fun h => ?_⟩
              · rw [hkd] at h; cases h
              · exact ⟨hv10, hv11⟩
            · skip
              intro ht6
              refine zr_if_eq (tgt := 111) X dX3_advance_96 (by decide) (fun _ => ?_) (fun h => absurd h (by decide))
              refine zr_aload0 X dX3_advance_111 ?_
              refine zr_iload1 X dX3_advance_112 ?_
              refine zr_bipush (v := (59 : Int32)) X dX3_advance_113 (by decide) ?_
              refine zr_icmp_ne (tgt := 122) X dX3_advance_115 (by decide) (fun h7 => ?_) (fun h7 => ?_)
              · skip
                refine zr_iconst (v := (4 : Int32)) X dX3_advance_122 (by decide) ?_
                refine zr_putI X zf_X3_35 rfl (Or.inl rfl) dX3_advance_123 ?_
                refine zr_aload0 X dX3_advance_126 ?_
                refine zr_dupR X dX3_advance_127 ?_
                refine zr_getI X zf_X3_22 rfl dX3_advance_128 ?_
                refine zr_eq (x2 := (J (a) 3)) ((zput_nj (by decide)).trans ((zput_nj (by decide)))) ?_
                refine zr_eq (x2 := (nI q)) (i4) ?_
                refine zr_iconst (v := (1 : Int32)) X dX3_advance_131 (by decide) ?_
                refine zr_iadd X dX3_advance_132 ?_
                refine zr_eq (x2 := (nI (q + 1))) (nI_add (q) (1)) ?_
                refine zr_putI X zf_X3_22 rfl (Or.inl rfl) dX3_advance_133 ?_
                refine zr_vret X (by decide) (by decide) dX3_advance_136 ?_
                have hq : tSkip t n9 p9 = q := tSkip_of hp i0 i1 (by first | exact Or.inl (by omega) | exact Or.inr (fun z => absurd ((zsg_all _ (hB9 q)).1.mpr z) (by assumption)))
                refine k1 _ ?_ ?_ ?_
                · repeat (first | exact zag.rf | assumption | refine zag.put ?_ (by omega) (by omega) | refine zag.tr ?_ (by assumption) (by omega) (by omega))
                · repeat (first | assumption | refine zBy.put ?_ (by decide))
                rw [hq]
                have hkd : tKind t n9 q = 4 := by rw [tKind, if_neg (by omega), if_neg (by simp [*]), if_neg (by simp [*]), if_neg (fun z => absurd ((zsg_all _ (hB9 q)).2.1.mpr z) h7)]
                have hen : tEnd t n9 q = q + 1 := by rw [tEnd, if_neg (by omega), if_neg (by simp [*]), if_neg (by simp [*])]
                refine ⟨by omega, ((zput_nj (by decide)).trans ((zput_nj (by decide)).trans ((zput_nj (by decide))))).trans j2, (zput_nj (by decide)).trans ((zput_nj (by decide)).trans (zput_eq)), by rw [hkd]; exact (zput_nj (by decide)).trans (zput_eq), by rw [hen]; exact zput_eq, fun h => ?_, fun h => ?_⟩
                · rw [hkd] at h; cases h
                · rw [hkd] at h; cases h
              · skip
                refine zr_iconst (v := (3 : Int32)) X dX3_advance_118 (by decide) ?_
                refine zr_goto (tgt := 123) X dX3_advance_119 (by decide) ?_
                refine zr_putI X zf_X3_35 rfl (Or.inl rfl) dX3_advance_123 ?_
                refine zr_aload0 X dX3_advance_126 ?_
                refine zr_dupR X dX3_advance_127 ?_
                refine zr_getI X zf_X3_22 rfl dX3_advance_128 ?_
                refine zr_eq (x2 := (J (a) 3)) ((zput_nj (by decide)).trans ((zput_nj (by decide)))) ?_
                refine zr_eq (x2 := (nI q)) (i4) ?_
                refine zr_iconst (v := (1 : Int32)) X dX3_advance_131 (by decide) ?_
                refine zr_iadd X dX3_advance_132 ?_
                refine zr_eq (x2 := (nI (q + 1))) (nI_add (q) (1)) ?_
                refine zr_putI X zf_X3_22 rfl (Or.inl rfl) dX3_advance_133 ?_
                refine zr_vret X (by decide) (by decide) dX3_advance_136 ?_
                have hq : tSkip t n9 p9 = q := tSkip_of hp i0 i1 (by first | exact Or.inl (by omega) | exact Or.inr (fun z => absurd ((zsg_all _ (hB9 q)).1.mpr z) (by assumption)))
                refine k1 _ ?_ ?_ ?_
                · repeat (first | exact zag.rf | assumption | refine zag.put ?_ (by omega) (by omega) | refine zag.tr ?_ (by assumption) (by omega) (by omega))
                · repeat (first | assumption | refine zBy.put ?_ (by decide))
                rw [hq]
                have hkd : tKind t n9 q = 3 := by rw [tKind, if_neg (by omega), if_neg (by simp [*]), if_neg (by simp [*]), if_pos ((zsg_all _ (hB9 q)).2.1.mp h7)]
                have hen : tEnd t n9 q = q + 1 := by rw [tEnd, if_neg (by omega), if_neg (by simp [*]), if_neg (by simp [*])]
                refine ⟨by omega, ((zput_nj (by decide)).trans ((zput_nj (by decide)).trans ((zput_nj (by decide))))).trans j2, (zput_nj (by decide)).trans ((zput_nj (by decide)).trans (zput_eq)), by rw [hkd]; exact (zput_nj (by decide)).trans (zput_eq), by rw [hen]; exact zput_eq, fun h => ?_, fun h => ?_⟩
                · rw [hkd] at h; cases h
                · rw [hkd] at h; cases h
        · exact absurd h4 (by omega)
      · skip
        refine zr_aload0 X dX3_advance_24 ?_
        refine zr_dupR X dX3_advance_25 ?_
        refine zr_getI X zf_X3_22 rfl dX3_advance_26 ?_
        refine zr_eq (x2 := (nI q)) (i4) ?_
        refine zr_iconst (v := (1 : Int32)) X dX3_advance_29 (by decide) ?_
        refine zr_iadd X dX3_advance_30 ?_
        refine zr_eq (x2 := (nI (q + 1))) (nI_add (q) (1)) ?_
        refine zr_putI X zf_X3_22 rfl (Or.inl rfl) dX3_advance_31 ?_
        refine zr_goto (tgt := 0) X dX3_advance_34 (by decide) ?_
        have hq : q < tSkip t n9 p9 := (tSkip_in i0 i1 (by omega)).mp ((zsg_all _ (hB9 q)).1.mp (by assumption))
        exact ih (q + 1) _ (by omega) (by omega) (by repeat (first | exact zag.rf | assumption | refine zag.put ?_ (by omega) (by omega) | refine zag.tr ?_ (by assumption) (by omega) (by omega))) (by repeat (first | assumption | refine zBy.put ?_ (by decide))) (((zput_nj (by decide))).trans j2) (zput_eq) (by omega)
set_option maxRecDepth 20000 in
theorem zp_X3_advance {l : Launch} {D : va_G} {b0 : Nat} {tA : Nat → ClassId} {sa sv : Nat → Nat} {K : zKt} {I : zI} {Qp : zI → Option AV → Prop} {Xp : String → zI → Prop} {a n9 p9 f : Nat} {t : Nat → Nat}
    (hB : zBy I a t f) (hn : n9 ≤ f) (h2 : I a 2 = nI n9) (h3 : I a 3 = nI p9) (hp : p9 ≤ n9) (k1 : ∀ J : zI, zag I J a 1 → zBy J a t f → zTok J a t n9 (tSkip t n9 p9) → Qp J none) :
    zC l D b0 tA sa sv K yX3_advance (.code yX3_advance cX3_advance 2 none) zrm_X3_advance [vr (a) 3] I Qp Xp := by
  have hE := tSkip_le (t := t) hp
  refine zC_of (by decide +kernel) (Nat.le_of_ble_eq_true rfl) ?_
  intro p e s m args below meth c X hnt
  have X : zX p l e zrm_X3_advance s m args below meth c RX3 cX3_advance 2 none D b0 tA sa sv := X
  refine zr_lv (lv2 := [some (vr (a) 3), none]) rfl ?_
  exact zl_X3_advance (I := I) X hnt hn hp hB.2.2.1 hB.2.1 k1 (n9 + 1) p9 I (Nat.le_refl _) (by omega) zag.rf hB h2 h3 (by omega)
abbrev zrm_X3_beginText : Room := { frames := 3, cells := 0, slots := 0, locals := 65 }
set_option maxRecDepth 20000 in
theorem zp_X3_beginText {l : Launch} {D : va_G} {b0 : Nat} {tA : Nat → ClassId} {sa sv : Nat → Nat} {K : zKt} {I : zI} {Qp : zI → Option AV → Prop} {Xp : String → zI → Prop} {a n9 f : Nat} {t : Nat → Nat}
    (hB : zBy I a t f) (hn : n9 ≤ f) (k1 : ∀ J : zI, zag I J a 1 → zBy J a t f → zTok J a t n9 (tSkip t n9 0) → Qp J none) :
    zC l D b0 tA sa sv K yX3_beginText (.code yX3_beginText cX3_beginText 2 none) zrm_X3_beginText [vr (a) 3, vi ((nI n9))] I Qp Xp := by
  refine zC_of (by decide +kernel) (Nat.le_of_ble_eq_true rfl) ?_
  intro p e s m args below meth c X hnt
  have X : zX p l e zrm_X3_beginText s m args below meth c RX3 cX3_beginText 2 none D b0 tA sa sv := X
  refine zr_lv (lv2 := [some (vr (a) 3), some (vi ((nI n9)))]) rfl ?_
  refine zr_aload0 X dX3_beginText_0 ?_
  refine zr_iload1 X dX3_beginText_1 ?_
  refine zr_putI X zf_X3_19 rfl (Or.inl rfl) dX3_beginText_2 ?_
  refine zr_aload0 X dX3_beginText_5 ?_
  refine zr_iconst (v := (0 : Int32)) X dX3_beginText_6 (by decide) ?_
  refine zr_putI X zf_X3_22 rfl (Or.inl rfl) dX3_beginText_7 ?_
  refine zr_aload0 X dX3_beginText_10 ?_
  refine zr_callV0 (rm9 := zrm_X3_advance) X hnt zm_X3_25 (by decide) (by decide) (by decide) (Nat.le_of_ble_eq_true rfl) dX3_beginText_11 ?_
  refine zp_X3_advance (t := t) (f := f) (n9 := n9) (p9 := 0) (by repeat (first | assumption | refine zBy.put ?_ (by decide))) hn ((zput_nj (by decide)).trans (zput_eq)) (zput_eq) (Nat.zero_le _) ?_
  intro J12 hg13 hb15 hk14
  refine zr_vret X (by decide) (by decide) dX3_beginText_14 ?_
  exact k1 _ (by repeat (first | exact zag.rf | assumption | refine zag.put ?_ (by omega) (by omega) | refine zag.tr ?_ (by assumption) (by omega) (by omega))) hb15 hk14
abbrev zrm_X3_isWord : Room := { frames := 5, cells := 0, slots := 0, locals := 150 }
/-- a constant's signs as a number -/
def tSn (i : Nat) : Nat → Int32 := tNm (fun k => (zSW.getD i []).getD k 0) 0
theorem tIs_iff {I : zI} {a n p i : Nat} {t : Nat → Nat} (hn : n ≤ 500) (hT : zTok I a t n p) (hi : i < 10) : tIs t n p (zSW.getD i []) ↔ tKind t n p = 2 ∧ I a 7 = nI (zSL.getD i 0) ∧ I a 8 = tSn i (zSL.getD i 0) := by
  obtain ⟨h1, h2⟩ := zSW_all i (by omega)
  have h6 : zSL.getD i 0 ≤ 6 := by
    have : ∀ i, i < 10 → zSL.getD i 0 ≤ 6 := by decide
    exact this i hi
  have g : ∀ k, k < zSL.getD i 0 → tLet ((zSW.getD i []).getD (0 + k) 0) = true := fun k hk => by
    rw [Nat.zero_add]
    obtain ⟨_, q1, q2, _⟩ := h2 k hk
    have := q2 hi
    exact tLet_iff.mpr ⟨by omega, by omega⟩
  have hle : p ≤ n := hT.1
  have hE := tEndL_le (t := t) hle
  constructor
  · rintro ⟨q1, q2, q3, q4⟩
    have hk : tKind t n p = 2 := by
      rw [tKind, if_neg (by omega), if_neg (fun z => by have := tDig_iff.mp z; have := tLet_iff.mp q2; omega), if_pos q2]
    obtain ⟨e7, e8⟩ := hT.2.2.2.2.2.2 hk
    rw [h1] at q3 q4
    refine ⟨hk, by rw [e7, q3], ?_⟩
    rw [e8, q3]
    exact (tNm_iff h6 (fun i hi => tLet_run (n := n) (by omega)) g).mpr (fun k hk => by rw [Nat.zero_add]; exact q4 k hk)
  · rintro ⟨hk, e7, e8⟩
    obtain ⟨d7, d8⟩ := hT.2.2.2.2.2.2 hk
    have hlp : p < n ∧ tLet (t p) = true := by
      unfold tKind at hk
      split at hk
      · cases hk
      · split at hk
        · cases hk
        · split at hk
          · exact ⟨by omega, by assumption⟩
          · split at hk <;> cases hk
    have q3 : tEndL t n p - p = zSL.getD i 0 := (nI_eq (by omega) (by omega)).mp (d7.symm.trans e7)
    refine ⟨hlp.1, hlp.2, by rw [h1]; exact q3, fun k hk => ?_⟩
    rw [h1] at hk
    rw [d8, q3] at e8
    have := (tNm_iff h6 (fun i hi => tLet_run (n := n) (by omega)) g).mp e8 k hk
    rw [Nat.zero_add] at this
    exact this
set_option maxRecDepth 20000 in
theorem zl_X3_isWord {l : Launch} {D : va_G} {b0 : Nat} {tA : Nat → ClassId} {sa sv : Nat → Nat} {K : zKt} {I : zI} {Qp : zI → Option AV → Prop} {Xp : String → zI → Prop} {p : Program} {e : Env} {s : State} {m : MethodId} {args : Array Value} {below : List Frame} {meth : Method} {c : Code} {a n9 p9 i : Nat} {t : Nat → Nat}
    (X : zX p l e zrm_X3_isWord s m args below meth c RX3 cX3_isWord 4 (some .boolean) D b0 tA sa sv) (hnt : ∀ x ∈ c.exceptionTable.toList, False) (hn : n9 ≤ 500) (hT : zTok I a t n9 p9) (hi20 : i < 10) (k1 : tIs t n9 p9 (zSW.getD i []) → Qp I (some (vi 1))) (k2 : ¬ tIs t n9 p9 (zSW.getD i []) → Qp I (some (vi 0))) (hk2 : tKind t n9 p9 = 2) (hk7 : I a 7 = nI (zSL.getD i 0)) :
    ∀ (n : Nat) (k : Nat) (w : Int32), k ≤ zSL.getD i 0 → w = tSn i k → zSL.getD i 0 - k < n → zG p l e zrm_X3_isWord s m args below meth c 4 D b0 tA sa 0 0 (zQ below D b0 tA sa K args s zrm_X3_isWord Qp Xp) K 25 [some (vr (a) 3), some (vr (sa i) (24 + i)), some (vi (w)), some (vi ((nI k)))] [] I := by
  intro n
  induction n with
  | zero => intro k w i1 i2 i9; exact absurd i9 (Nat.not_lt_zero _)
  | succ n ih =>
    intro k w i1 i2 i9
    have hl9 : ∀ i, i < 10 → zSL.getD i 0 < 2 ^ 30 := by decide
    have hl8 := hl9 i hi20
    refine zr_iload3 X dX3_isWord_25 ?_
    refine zr_aload1 X dX3_isWord_26 ?_
    refine zr_callW0 (rm9 := zrm_J0_length_8abf5) X hnt (by omega) zm_X3_69 (by decide) (by decide) (by decide) (Nat.le_of_ble_eq_true rfl) dX3_isWord_27 ?_
    refine zp_J0_length_8abf5 (i := i) (by omega) ?_
    refine zr_nicmp_ge X (k) ((zSL.getD i 0)) (tgt := 49) (by omega) (by omega) dX3_isWord_30 (by decide) (fun h1 => ?_) (fun h1 => ?_)
    · skip
      refine zr_aload0 X dX3_isWord_49 ?_
      refine zr_getI X zf_X3_63 rfl dX3_isWord_50 ?_
      refine zr_iload2 X dX3_isWord_53 ?_
      refine zr_icmp_ne (tgt := 61) X dX3_isWord_54 (by decide) (fun h2 => ?_) (fun h2 => ?_)
      · skip
        refine zr_iconst (v := (0 : Int32)) X dX3_isWord_61 (by decide) ?_
        refine zr_zret X (by first | decide | assumption | (simp; done)) (by decide) (by decide) dX3_isWord_62 ?_
        have hkk : k = zSL.getD i 0 := by omega
        subst hkk
        exact k2 (fun z => by have := (tIs_iff hn hT hi20).mp z; first | (rw [← i2] at this; exact absurd this.2.2 (by assumption)))
      · skip
        refine zr_iconst (v := (1 : Int32)) X dX3_isWord_57 (by decide) ?_
        refine zr_goto (tgt := 62) X dX3_isWord_58 (by decide) ?_
        refine zr_zret X (by first | decide | assumption | (simp; done)) (by decide) (by decide) dX3_isWord_62 ?_
        have hkk : k = zSL.getD i 0 := by omega
        subst hkk
        exact k1 ((tIs_iff hn hT hi20).mpr ⟨hk2, hk7, by rw [← i2]; assumption⟩)
    · skip
      refine zr_iload2 X dX3_isWord_33 ?_
      refine zr_aload1 X dX3_isWord_34 ?_
      refine zr_iload3 X dX3_isWord_35 ?_
      refine zr_callW1 (rm9 := zrm_J0_charAt_5068e) X hnt (by omega) zm_X3_75 (by decide) (by decide) (by decide) (Nat.le_of_ble_eq_true rfl) dX3_isWord_36 ?_
      refine zp_J0_charAt_5068e (i := i) (by omega) (by omega) ?_
      refine zr_callS2 (rm9 := zrm_X3_nameWith) X hnt zm_X3_66 (by decide) (by decide) (by decide) (Nat.le_of_ble_eq_true rfl) dX3_isWord_39 ?_
      refine zp_X3_nameWith ?_
      refine zr_istore2 X (by decide) rfl dX3_isWord_42 ?_
      refine zr_iinc3 (v := (nI (k + 1))) X (show nI (k) + Int32.ofInt 1 = nI (k + 1) from nI_1 (k)) (by decide) rfl dX3_isWord_43 ?_
      refine zr_goto (tgt := 25) X dX3_isWord_46 (by decide) ?_
      exact ih (k + 1) _ (by omega) (by rw [i2]; show _ = tNm (fun k => (zSW.getD i []).getD k 0) 0 (k + 1); rw [tNm, Nat.zero_add]; rfl) (by omega)
theorem tKind_le {t : Nat → Nat} {n p : Nat} : tKind t n p ≤ 4 := by
  unfold tKind
  repeat' split
  all_goals decide
set_option maxRecDepth 20000 in
theorem zp_X3_isWord {l : Launch} {D : va_G} {b0 : Nat} {tA : Nat → ClassId} {sa sv : Nat → Nat} {K : zKt} {I : zI} {Qp : zI → Option AV → Prop} {Xp : String → zI → Prop} {a n9 p9 i : Nat} {t : Nat → Nat}
    (hn : n9 ≤ 500) (hT : zTok I a t n9 p9) (hi20 : i < 10) (k1 : tIs t n9 p9 (zSW.getD i []) → Qp I (some (vi 1))) (k2 : ¬ tIs t n9 p9 (zSW.getD i []) → Qp I (some (vi 0))) :
    zC l D b0 tA sa sv K yX3_isWord (.code yX3_isWord cX3_isWord 4 (some .boolean)) zrm_X3_isWord [vr (a) 3, vr (sa i) (24 + i)] I Qp Xp := by
  have hk4 := tKind_le (t := t) (n := n9) (p := p9)
  have hl9 : ∀ i, i < 10 → zSL.getD i 0 < 9 := by decide
  have hl8 := hl9 i hi20
  refine zC_of (by decide +kernel) (Nat.le_of_ble_eq_true rfl) ?_
  intro p e s m args below meth c X hnt
  have X : zX p l e zrm_X3_isWord s m args below meth c RX3 cX3_isWord 4 (some .boolean) D b0 tA sa sv := X
  refine zr_lv (lv2 := [some (vr (a) 3), some (vr (sa i) (24 + i)), none, none]) rfl ?_
  refine zr_aload0 X dX3_isWord_0 ?_
  refine zr_getI X zf_X3_35 rfl dX3_isWord_1 ?_
  refine zr_eq (x2 := (nI (tKind t n9 p9))) (hT.2.2.2.1) ?_
  refine zr_iconst (v := (2 : Int32)) X dX3_isWord_4 (by decide) ?_
  refine zr_nicmp_ne X ((tKind t n9 p9)) (2) (tgt := 19) (by omega) (by omega) dX3_isWord_5 (by decide) (fun h1 => ?_) (fun h1 => ?_)
  · skip
    refine zr_iconst (v := (0 : Int32)) X dX3_isWord_19 (by decide) ?_
    refine zr_zret X (by first | decide | assumption | (simp; done)) (by decide) (by decide) dX3_isWord_20 ?_
    exact k2 (fun z => by have := (tIs_iff hn hT hi20).mp z; first | omega | exact absurd this.2.1 (by assumption))
  · skip
    refine zr_aload0 X dX3_isWord_8 ?_
    refine zr_getI X zf_X3_60 rfl dX3_isWord_9 ?_
    refine zr_aload1 X dX3_isWord_12 ?_
    refine zr_callW0 (rm9 := zrm_J0_length_8abf5) X hnt (by omega) zm_X3_69 (by decide) (by decide) (by decide) (Nat.le_of_ble_eq_true rfl) dX3_isWord_13 ?_
    refine zp_J0_length_8abf5 (i := i) (by omega) ?_
    refine zr_icmp_eq (tgt := 21) X dX3_isWord_16 (by decide) (fun h2 => ?_) (fun h2 => ?_)
    · skip
      refine zr_iconst (v := (0 : Int32)) X dX3_isWord_21 (by decide) ?_
      refine zr_istore2 X (by decide) rfl dX3_isWord_22 ?_
      refine zr_iconst (v := (0 : Int32)) X dX3_isWord_23 (by decide) ?_
      refine zr_istore3 X (by decide) rfl dX3_isWord_24 ?_
      exact zl_X3_isWord X hnt hn hT hi20 k1 k2 (by omega) (by assumption) 9 0 0 (by omega) rfl (by omega)
    · skip
      refine zr_iconst (v := (0 : Int32)) X dX3_isWord_19 (by decide) ?_
      refine zr_zret X (by first | decide | assumption | (simp; done)) (by decide) (by decide) dX3_isWord_20 ?_
      exact k2 (fun z => by have := (tIs_iff hn hT hi20).mp z; first | omega | exact absurd this.2.1 (by assumption))
abbrev zrm_X3_nameOfFirst : Room := { frames := 1, cells := 0, slots := 0, locals := 21 }
/-- the name that the first L bytes are: a number; 0 if they are none -/
def tFirst (t : Nat → Nat) (L : Nat) : Prop := 1 ≤ L ∧ L ≤ 6 ∧ ∀ i, i < L → tLet (t i) = true
theorem tNm0 {t : Nat → Nat} {k : Nat} : tNm t 0 (k + 1) = 27 * tNm t 0 k + (nI (t k) - 97 + 1) := by rw [tNm, Nat.zero_add]
set_option maxRecDepth 20000 in
theorem zl_X3_nameOfFirst {l : Launch} {D : va_G} {b0 : Nat} {tA : Nat → ClassId} {sa sv : Nat → Nat} {K : zKt} {I : zI} {Qp : zI → Option AV → Prop} {Xp : String → zI → Prop} {p : Program} {e : Env} {s : State} {m : MethodId} {args : Array Value} {below : List Frame} {meth : Method} {c : Code} {a L9 f : Nat} {t : Nat → Nat}
    (X : zX p l e zrm_X3_nameOfFirst s m args below meth c RX3 cX3_nameOfFirst 4 (some .int) D b0 tA sa sv) (hnt : ∀ x ∈ c.exceptionTable.toList, False) (hB : zBy I a t f) (hL : L9 ≤ f) (k1 : tFirst t L9 → Qp I (some (vi (tNm t 0 L9)))) (k2 : ¬ tFirst t L9 → Qp I (some (vi 0))) (h1 : 1 ≤ L9) (h6 : L9 ≤ 6) :
    ∀ (n : Nat) (k : Nat), k ≤ L9 → (∀ i, i < k → tLet (t i) = true) → L9 - k < n → zG p l e zrm_X3_nameOfFirst s m args below meth c 4 D b0 tA sa 0 0 (zQ below D b0 tA sa K args s zrm_X3_nameOfFirst Qp Xp) K 17 [some (vr (a) 3), some (vi ((nI L9))), some (vi ((tNm t 0 k))), some (vi ((nI k)))] [] I := by
  intro n
  induction n with
  | zero => intro k i1 i2 i9; exact absurd i9 (Nat.not_lt_zero _)
  | succ n ih =>
    intro k i1 i2 i9
    have hB9 := hB.2.2.1
    refine zr_iload3 X dX3_nameOfFirst_17 ?_
    refine zr_iload1 X dX3_nameOfFirst_18 ?_
    refine zr_nicmp_ge X (k) (L9) (tgt := 51) (by omega) (by omega) dX3_nameOfFirst_19 (by decide) (fun h1 => ?_) (fun h1 => ?_)
    · skip
      refine zr_iload2 X dX3_nameOfFirst_51 ?_
      refine zr_iret X (by decide) (by decide) dX3_nameOfFirst_52 ?_
      have hk : k = L9 := by omega
      subst hk; exact k1 ⟨by omega, by omega, i2⟩
    · skip
      refine zr_aload0 X dX3_nameOfFirst_22 ?_
      refine zr_iload3 X dX3_nameOfFirst_23 ?_
      refine zr_callV1 (rm9 := zrm_X3_byteAt) X hnt zm_X3_28 (by decide) (by decide) (by decide) (Nat.le_of_ble_eq_true rfl) dX3_nameOfFirst_24 ?_
      refine zn_X3_byteAt (t := t) (f := f) (k := k) hB (by omega) ?_; rw [if_pos (show k < f by omega)]
      refine zr_callS1 (rm9 := zrm_X3_isLetter) X hnt zm_X3_45 (by decide) (by decide) (by decide) (Nat.le_of_ble_eq_true rfl) dX3_nameOfFirst_27 ?_
      refine zn_X3_isLetter (v := (t k)) (hB9 _) ?_ ?_
      · skip
        intro ht2
        refine zr_if_ne (tgt := 35) X dX3_nameOfFirst_30 (by decide) (fun _ => ?_) (fun h => absurd h (by decide))
        refine zr_iload2 X dX3_nameOfFirst_35 ?_
        refine zr_aload0 X dX3_nameOfFirst_36 ?_
        refine zr_iload3 X dX3_nameOfFirst_37 ?_
        refine zr_callV1 (rm9 := zrm_X3_byteAt) X hnt zm_X3_28 (by decide) (by decide) (by decide) (Nat.le_of_ble_eq_true rfl) dX3_nameOfFirst_38 ?_
        refine zn_X3_byteAt (t := t) (f := f) (k := k) hB (by omega) ?_; rw [if_pos (show k < f by omega)]
        refine zr_callS2 (rm9 := zrm_X3_nameWith) X hnt zm_X3_66 (by decide) (by decide) (by decide) (Nat.le_of_ble_eq_true rfl) dX3_nameOfFirst_41 ?_
        refine zp_X3_nameWith ?_
        refine zr_eq (x2 := (tNm t 0 (k + 1))) (by rw [tNm0, show zsg (t k) = nI (t k) from by unfold zsg; rw [if_pos (by have := tLet_iff.mp (by assumption); omega)]]) ?_
        refine zr_istore2 X (by decide) rfl dX3_nameOfFirst_44 ?_
        refine zr_iinc3 (v := (nI (k + 1))) X (show nI (k) + Int32.ofInt 1 = nI (k + 1) from nI_1 (k)) (by decide) rfl dX3_nameOfFirst_45 ?_
        refine zr_goto (tgt := 17) X dX3_nameOfFirst_48 (by decide) ?_
        exact ih (k + 1) (by omega) (fun i hi => by rcases Nat.lt_succ_iff_lt_or_eq.mp hi with q | rfl; exact i2 i q; assumption) (by omega)
      · skip
        intro ht2
        refine zr_if_ne (tgt := 35) X dX3_nameOfFirst_30 (by decide) (fun h => absurd h (by decide)) (fun _ => ?_)
        refine zr_iconst (v := (0 : Int32)) X dX3_nameOfFirst_33 (by decide) ?_
        refine zr_iret X (by decide) (by decide) dX3_nameOfFirst_34 ?_
        exact k2 (fun z => by have := z.2.2 k (by omega); simp_all)
set_option maxRecDepth 20000 in
theorem zp_X3_nameOfFirst {l : Launch} {D : va_G} {b0 : Nat} {tA : Nat → ClassId} {sa sv : Nat → Nat} {K : zKt} {I : zI} {Qp : zI → Option AV → Prop} {Xp : String → zI → Prop} {a L9 f : Nat} {t : Nat → Nat}
    (hB : zBy I a t f) (hL : L9 ≤ f) (k1 : tFirst t L9 → Qp I (some (vi (tNm t 0 L9)))) (k2 : ¬ tFirst t L9 → Qp I (some (vi 0))) :
    zC l D b0 tA sa sv K yX3_nameOfFirst (.code yX3_nameOfFirst cX3_nameOfFirst 4 (some .int)) zrm_X3_nameOfFirst [vr (a) 3, vi ((nI L9))] I Qp Xp := by
  have hf5 := hB.2.1
  refine zC_of (by decide +kernel) (Nat.le_of_ble_eq_true rfl) ?_
  intro p e s m args below meth c X hnt
  have X : zX p l e zrm_X3_nameOfFirst s m args below meth c RX3 cX3_nameOfFirst 4 (some .int) D b0 tA sa sv := X
  refine zr_lv (lv2 := [some (vr (a) 3), some (vi ((nI L9))), none, none]) rfl ?_
  refine zr_iload1 X dX3_nameOfFirst_0 ?_
  refine zr_iconst (v := (1 : Int32)) X dX3_nameOfFirst_1 (by decide) ?_
  refine zr_nicmp_lt X (L9) (1) (tgt := 11) (by omega) (by omega) dX3_nameOfFirst_2 (by decide) (fun h1 => ?_) (fun h1 => ?_)
  · skip
    refine zr_iconst (v := (0 : Int32)) X dX3_nameOfFirst_11 (by decide) ?_
    refine zr_iret X (by decide) (by decide) dX3_nameOfFirst_12 ?_
    exact k2 (fun z => by have := z.1; have := z.2.1; omega)
  · skip
    refine zr_iload1 X dX3_nameOfFirst_5 ?_
    refine zr_bipush (v := (6 : Int32)) X dX3_nameOfFirst_6 (by decide) ?_
    refine zr_nicmp_le X (L9) (6) (tgt := 13) (by omega) (by omega) dX3_nameOfFirst_8 (by decide) (fun h2 => ?_) (fun h2 => ?_)
    · skip
      refine zr_iconst (v := (0 : Int32)) X dX3_nameOfFirst_13 (by decide) ?_
      refine zr_istore2 X (by decide) rfl dX3_nameOfFirst_14 ?_
      refine zr_iconst (v := (0 : Int32)) X dX3_nameOfFirst_15 (by decide) ?_
      refine zr_istore3 X (by decide) rfl dX3_nameOfFirst_16 ?_
      exact zl_X3_nameOfFirst X hnt hB hL k1 k2 (by omega) (by omega) 9 0 (by omega) (fun i hi => absurd hi (Nat.not_lt_zero _)) (by omega)
    · skip
      refine zr_iconst (v := (0 : Int32)) X dX3_nameOfFirst_11 (by decide) ?_
      refine zr_iret X (by decide) (by decide) dX3_nameOfFirst_12 ?_
      exact k2 (fun z => by have := z.1; have := z.2.1; omega)
abbrev zrm_X3_addBytesOf : Room := { frames := 0, cells := 0, slots := 0, locals := 0 }
/-- the bytes of a word, behind what is there -/
def wBy (w : Int32) (k : Nat) : Nat := (w >>> (nI (24 - 8 * k) &&& 31) &&& 255).toNatClampNeg
def tAdd (t : Nat → Nat) (f : Nat) (w : Int32) : Nat → Nat := fun k => if k < f then t k else if k < f + 4 then wBy w (k - f) else t k
theorem i8_low (x : Int32) : (x &&& 255).toInt8 = x.toInt8 := by
  apply Int8.toBitVec_inj.1
  apply BitVec.eq_of_getLsbD_eq
  intro i hi
  have h2 : (255 : Int32).toBitVec.getLsbD i = true := by
    have : ∀ j : Fin 8, (255 : Int32).toBitVec.getLsbD j.val = true := by decide +kernel
    exact this ⟨i, hi⟩
  have h4 : (x &&& 255).toBitVec.getLsbD i = x.toBitVec.getLsbD i := by
    show (x.toBitVec &&& (255 : Int32).toBitVec).getLsbD i = _
    rw [BitVec.getLsbD_and, h2, Bool.and_true]
  have h3 : i < 32 := by omega
  rw [Int32.toBitVec_toInt8, Int32.toBitVec_toInt8, BitVec.getLsbD_signExtend, BitVec.getLsbD_signExtend, if_pos h3, if_pos h3, h4]
theorem i8_255 (x : Int32) : x.toInt8.toInt32 = zsg (x &&& 255).toNatClampNeg ∧ (x &&& 255).toNatClampNeg < 256 ∧ x &&& 255 = nI (x &&& 255).toNatClampNeg := by
  have e : x = nI x.toBitVec.toNat := by
    apply Int32.toBitVec_inj.mp
    show x.toBitVec = BitVec.ofNat 32 x.toBitVec.toNat
    simp
  have h1 : x &&& 255 = nI (x.toBitVec.toNat % 2 ^ 8) := by
    have := pk_andN (n := x.toBitVec.toNat) x.toBitVec.isLt (m := 255) 8 (by decide)
    rw [← e] at this
    exact this
  have h2 : (x &&& 255).toNatClampNeg = x.toBitVec.toNat % 2 ^ 8 := by rw [h1]; exact nI_clamp (by omega)
  have h3 : (x &&& 255).toNatClampNeg < 256 := by rw [h2]; omega
  refine ⟨?_, h3, by rw [h2]; exact h1⟩
  rw [(zsg_all _ h3).2.2.2.2.1, ← i8_low x, h2, ← h1]
theorem wBy_z (w : Int32) : zsg (wBy w 0) = (w >>> ((24 : Int32) &&& 31)).toInt8.toInt32 ∧ zsg (wBy w 1) = (w >>> ((16 : Int32) &&& 31)).toInt8.toInt32 ∧ zsg (wBy w 2) = (w >>> ((8 : Int32) &&& 31)).toInt8.toInt32 ∧ zsg (wBy w 3) = (w >>> ((0 : Int32) &&& 31)).toInt8.toInt32 := ⟨(i8_255 _).1.symm, (i8_255 _).1.symm, (i8_255 _).1.symm, (i8_255 _).1.symm⟩
theorem tAdd_lt {t : Nat → Nat} {f : Nat} {w : Int32} (h : ∀ k, t k < 256) (k : Nat) : tAdd t f w k < 256 := by
  unfold tAdd
  split
  · exact h k
  · split
    · exact (i8_255 _).2.1
    · exact h k
theorem tAdd_at {t : Nat → Nat} {f i : Nat} {w : Int32} (hi : i < 4) : tAdd t f w (f + i) = wBy w i := by
  unfold tAdd
  rw [if_neg (by omega), if_pos (by omega), Nat.add_sub_cancel_left]
theorem tAdd_lo {t : Nat → Nat} {f k : Nat} {w : Int32} (hk : k < f) : tAdd t f w k = t k := by unfold tAdd; rw [if_pos hk]
set_option maxRecDepth 20000 in
theorem zp_X3_addBytesOf {l : Launch} {D : va_G} {b0 : Nat} {tA : Nat → ClassId} {sa sv : Nat → Nat} {K : zKt} {I : zI} {Qp : zI → Option AV → Prop} {Xp : String → zI → Prop} {a f : Nat} {x1 : Int32} {t : Nat → Nat}
    (hB : zBy I a t f) (hf4 : f + 4 ≤ 500) (k1 : ∀ J : zI, zag I J a 2 → zBy J a (tAdd t f x1) (f + 4) → Qp J none) :
    zC l D b0 tA sa sv K yX3_addBytesOf (.code yX3_addBytesOf cX3_addBytesOf 3 none) zrm_X3_addBytesOf [vr (a) 3, vi (x1)] I Qp Xp := by
  refine zC_of (by decide +kernel) (Nat.le_of_ble_eq_true rfl) ?_
  intro p e s m args below meth c X hnt
  have X : zX p l e zrm_X3_addBytesOf s m args below meth c RX3 cX3_addBytesOf 3 none D b0 tA sa sv := X
  refine zr_lv (lv2 := [some (vr (a) 3), some (vi (x1)), none]) rfl ?_
  refine zr_bipush (v := (24 : Int32)) X dX3_addBytesOf_0 (by decide) ?_
  refine zr_istore2 X (by decide) rfl dX3_addBytesOf_2 ?_
  refine zr_iload2 X dX3_addBytesOf_3 ?_
  refine zr_if_lt (tgt := 55) X dX3_addBytesOf_4 (by decide) (fun h => absurd h (by decide)) (fun _ => ?_)
  refine zr_aload0 X dX3_addBytesOf_7 ?_
  refine zr_getI X zf_X3_15 rfl dX3_addBytesOf_8 ?_
  refine zr_eq (x2 := (nI f)) (hB.1) ?_
  refine zr_nif_lt X (f) (tgt := 49) (by omega) dX3_addBytesOf_11 (by decide) (fun h => h.elim) (fun _ => ?_)
  refine zr_aload0 X dX3_addBytesOf_14 ?_
  refine zr_getI X zf_X3_15 rfl dX3_addBytesOf_15 ?_
  refine zr_eq (x2 := (nI f)) (hB.1) ?_
  refine zr_aload0 X dX3_addBytesOf_18 ?_
  refine zr_getR X zf_X3_9 rfl (by decide) (by decide) dX3_addBytesOf_19 ?_
  refine zr_alen (v := 500) X (Or.inr (Or.inr rfl)) rfl dX3_addBytesOf_22 ?_
  refine zr_nicmp_ge X (f) (500) (tgt := 49) (by omega) (by omega) dX3_addBytesOf_23 (by decide) (fun h2 => ?_) (fun h2 => ?_)
  · exact absurd h2 (by omega)
  · skip
    refine zr_aload0 X dX3_addBytesOf_26 ?_
    refine zr_getR X zf_X3_9 rfl (by decide) (by decide) dX3_addBytesOf_27 ?_
    refine zr_aload0 X dX3_addBytesOf_30 ?_
    refine zr_getI X zf_X3_15 rfl dX3_addBytesOf_31 ?_
    refine zr_eq (x2 := (nI f)) (hB.1) ?_
    refine zr_iload1 X dX3_addBytesOf_34 ?_
    refine zr_iload2 X dX3_addBytesOf_35 ?_
    refine zr_ishr X dX3_addBytesOf_36 ?_
    refine zr_i2b X dX3_addBytesOf_37 ?_
    refine zr_bastN X (show _ < 500 from (by first | assumption | omega)) (by first | exact zb8 _ | assumption) dX3_addBytesOf_38 ?_
    refine zr_aload0 X dX3_addBytesOf_39 ?_
    refine zr_dupR X dX3_addBytesOf_40 ?_
    refine zr_getI X zf_X3_15 rfl dX3_addBytesOf_41 ?_
    refine zr_eq (x2 := (I (a) 1)) ((zput_ne (by omega))) ?_
    refine zr_eq (x2 := (nI f)) (hB.1) ?_
    refine zr_iconst (v := (1 : Int32)) X dX3_addBytesOf_44 (by decide) ?_
    refine zr_iadd X dX3_addBytesOf_45 ?_
    refine zr_eq (x2 := (nI (f + 1))) (nI_add (f) (1)) ?_
    refine zr_putI X zf_X3_15 rfl (Or.inl rfl) dX3_addBytesOf_46 ?_
    refine zr_iinc2 (v := (16 : Int32)) X (by decide) (by decide) rfl dX3_addBytesOf_49 ?_
    refine zr_goto (tgt := 3) X dX3_addBytesOf_52 (by decide) ?_
    refine zr_iload2 X dX3_addBytesOf_3 ?_
    refine zr_if_lt (tgt := 55) X dX3_addBytesOf_4 (by decide) (fun h => absurd h (by decide)) (fun _ => ?_)
    refine zr_aload0 X dX3_addBytesOf_7 ?_
    refine zr_getI X zf_X3_15 rfl dX3_addBytesOf_8 ?_
    refine zr_eq (x2 := (nI (f + 1))) (zput_eq) ?_
    refine zr_nif_lt X ((f + 1)) (tgt := 49) (by omega) dX3_addBytesOf_11 (by decide) (fun h => h.elim) (fun _ => ?_)
    refine zr_aload0 X dX3_addBytesOf_14 ?_
    refine zr_getI X zf_X3_15 rfl dX3_addBytesOf_15 ?_
    refine zr_eq (x2 := (nI (f + 1))) (zput_eq) ?_
    refine zr_aload0 X dX3_addBytesOf_18 ?_
    refine zr_getR X zf_X3_9 rfl (by decide) (by decide) dX3_addBytesOf_19 ?_
    refine zr_alen (v := 500) X (Or.inr (Or.inr rfl)) rfl dX3_addBytesOf_22 ?_
    refine zr_nicmp_ge X ((f + 1)) (500) (tgt := 49) (by omega) (by omega) dX3_addBytesOf_23 (by decide) (fun h4 => ?_) (fun h4 => ?_)
    · exact absurd h4 (by omega)
    · skip
      refine zr_aload0 X dX3_addBytesOf_26 ?_
      refine zr_getR X zf_X3_9 rfl (by decide) (by decide) dX3_addBytesOf_27 ?_
      refine zr_aload0 X dX3_addBytesOf_30 ?_
      refine zr_getI X zf_X3_15 rfl dX3_addBytesOf_31 ?_
      refine zr_eq (x2 := (nI (f + 1))) (zput_eq) ?_
      refine zr_iload1 X dX3_addBytesOf_34 ?_
      refine zr_iload2 X dX3_addBytesOf_35 ?_
      refine zr_ishr X dX3_addBytesOf_36 ?_
      refine zr_i2b X dX3_addBytesOf_37 ?_
      refine zr_bastN X (show _ < 500 from (by first | assumption | omega)) (by first | exact zb8 _ | assumption) dX3_addBytesOf_38 ?_
      refine zr_aload0 X dX3_addBytesOf_39 ?_
      refine zr_dupR X dX3_addBytesOf_40 ?_
      refine zr_getI X zf_X3_15 rfl dX3_addBytesOf_41 ?_
      refine zr_eq (x2 := (nI (f + 1))) ((zput_ne (by omega)).trans (zput_eq)) ?_
      refine zr_iconst (v := (1 : Int32)) X dX3_addBytesOf_44 (by decide) ?_
      refine zr_iadd X dX3_addBytesOf_45 ?_
      refine zr_eq (x2 := (nI ((f + 1) + 1))) (nI_add ((f + 1)) (1)) ?_
      refine zr_putI X zf_X3_15 rfl (Or.inl rfl) dX3_addBytesOf_46 ?_
      refine zr_iinc2 (v := (8 : Int32)) X (by decide) (by decide) rfl dX3_addBytesOf_49 ?_
      refine zr_goto (tgt := 3) X dX3_addBytesOf_52 (by decide) ?_
      refine zr_iload2 X dX3_addBytesOf_3 ?_
      refine zr_if_lt (tgt := 55) X dX3_addBytesOf_4 (by decide) (fun h => absurd h (by decide)) (fun _ => ?_)
      refine zr_aload0 X dX3_addBytesOf_7 ?_
      refine zr_getI X zf_X3_15 rfl dX3_addBytesOf_8 ?_
      refine zr_eq (x2 := (nI ((f + 1) + 1))) (zput_eq) ?_
      refine zr_nif_lt X (((f + 1) + 1)) (tgt := 49) (by omega) dX3_addBytesOf_11 (by decide) (fun h => h.elim) (fun _ => ?_)
      refine zr_aload0 X dX3_addBytesOf_14 ?_
      refine zr_getI X zf_X3_15 rfl dX3_addBytesOf_15 ?_
      refine zr_eq (x2 := (nI ((f + 1) + 1))) (zput_eq) ?_
      refine zr_aload0 X dX3_addBytesOf_18 ?_
      refine zr_getR X zf_X3_9 rfl (by decide) (by decide) dX3_addBytesOf_19 ?_
      refine zr_alen (v := 500) X (Or.inr (Or.inr rfl)) rfl dX3_addBytesOf_22 ?_
      refine zr_nicmp_ge X (((f + 1) + 1)) (500) (tgt := 49) (by omega) (by omega) dX3_addBytesOf_23 (by decide) (fun h6 => ?_) (fun h6 => ?_)
      · exact absurd h6 (by omega)
      · skip
        refine zr_aload0 X dX3_addBytesOf_26 ?_
        refine zr_getR X zf_X3_9 rfl (by decide) (by decide) dX3_addBytesOf_27 ?_
        refine zr_aload0 X dX3_addBytesOf_30 ?_
        refine zr_getI X zf_X3_15 rfl dX3_addBytesOf_31 ?_
        refine zr_eq (x2 := (nI ((f + 1) + 1))) (zput_eq) ?_
        refine zr_iload1 X dX3_addBytesOf_34 ?_
        refine zr_iload2 X dX3_addBytesOf_35 ?_
        refine zr_ishr X dX3_addBytesOf_36 ?_
        refine zr_i2b X dX3_addBytesOf_37 ?_
        refine zr_bastN X (show _ < 500 from (by first | assumption | omega)) (by first | exact zb8 _ | assumption) dX3_addBytesOf_38 ?_
        refine zr_aload0 X dX3_addBytesOf_39 ?_
        refine zr_dupR X dX3_addBytesOf_40 ?_
        refine zr_getI X zf_X3_15 rfl dX3_addBytesOf_41 ?_
        refine zr_eq (x2 := (nI ((f + 1) + 1))) ((zput_ne (by omega)).trans (zput_eq)) ?_
        refine zr_iconst (v := (1 : Int32)) X dX3_addBytesOf_44 (by decide) ?_
        refine zr_iadd X dX3_addBytesOf_45 ?_
        refine zr_eq (x2 := (nI (((f + 1) + 1) + 1))) (nI_add (((f + 1) + 1)) (1)) ?_
        refine zr_putI X zf_X3_15 rfl (Or.inl rfl) dX3_addBytesOf_46 ?_
        refine zr_iinc2 (v := (0 : Int32)) X (by decide) (by decide) rfl dX3_addBytesOf_49 ?_
        refine zr_goto (tgt := 3) X dX3_addBytesOf_52 (by decide) ?_
        refine zr_iload2 X dX3_addBytesOf_3 ?_
        refine zr_if_lt (tgt := 55) X dX3_addBytesOf_4 (by decide) (fun h => absurd h (by decide)) (fun _ => ?_)
        refine zr_aload0 X dX3_addBytesOf_7 ?_
        refine zr_getI X zf_X3_15 rfl dX3_addBytesOf_8 ?_
        refine zr_eq (x2 := (nI (((f + 1) + 1) + 1))) (zput_eq) ?_
        refine zr_nif_lt X ((((f + 1) + 1) + 1)) (tgt := 49) (by omega) dX3_addBytesOf_11 (by decide) (fun h => h.elim) (fun _ => ?_)
        refine zr_aload0 X dX3_addBytesOf_14 ?_
        refine zr_getI X zf_X3_15 rfl dX3_addBytesOf_15 ?_
        refine zr_eq (x2 := (nI (((f + 1) + 1) + 1))) (zput_eq) ?_
        refine zr_aload0 X dX3_addBytesOf_18 ?_
        refine zr_getR X zf_X3_9 rfl (by decide) (by decide) dX3_addBytesOf_19 ?_
        refine zr_alen (v := 500) X (Or.inr (Or.inr rfl)) rfl dX3_addBytesOf_22 ?_
        refine zr_nicmp_ge X ((((f + 1) + 1) + 1)) (500) (tgt := 49) (by omega) (by omega) dX3_addBytesOf_23 (by decide) (fun h8 => ?_) (fun h8 => ?_)
        · exact absurd h8 (by omega)
        · skip
          refine zr_aload0 X dX3_addBytesOf_26 ?_
          refine zr_getR X zf_X3_9 rfl (by decide) (by decide) dX3_addBytesOf_27 ?_
          refine zr_aload0 X dX3_addBytesOf_30 ?_
          refine zr_getI X zf_X3_15 rfl dX3_addBytesOf_31 ?_
          refine zr_eq (x2 := (nI (((f + 1) + 1) + 1))) (zput_eq) ?_
          refine zr_iload1 X dX3_addBytesOf_34 ?_
          refine zr_iload2 X dX3_addBytesOf_35 ?_
          refine zr_ishr X dX3_addBytesOf_36 ?_
          refine zr_i2b X dX3_addBytesOf_37 ?_
          refine zr_bastN X (show _ < 500 from (by first | assumption | omega)) (by first | exact zb8 _ | assumption) dX3_addBytesOf_38 ?_
          refine zr_aload0 X dX3_addBytesOf_39 ?_
          refine zr_dupR X dX3_addBytesOf_40 ?_
          refine zr_getI X zf_X3_15 rfl dX3_addBytesOf_41 ?_
          refine zr_eq (x2 := (nI (((f + 1) + 1) + 1))) ((zput_ne (by omega)).trans (zput_eq)) ?_
          refine zr_iconst (v := (1 : Int32)) X dX3_addBytesOf_44 (by decide) ?_
          refine zr_iadd X dX3_addBytesOf_45 ?_
          refine zr_eq (x2 := (nI ((((f + 1) + 1) + 1) + 1))) (nI_add ((((f + 1) + 1) + 1)) (1)) ?_
          refine zr_putI X zf_X3_15 rfl (Or.inl rfl) dX3_addBytesOf_46 ?_
          refine zr_iinc2 (v := (-8 : Int32)) X (by decide) (by decide) rfl dX3_addBytesOf_49 ?_
          refine zr_goto (tgt := 3) X dX3_addBytesOf_52 (by decide) ?_
          refine zr_iload2 X dX3_addBytesOf_3 ?_
          refine zr_if_lt (tgt := 55) X dX3_addBytesOf_4 (by decide) (fun _ => ?_) (fun h => absurd h (by decide))
          refine zr_vret X (by decide) (by decide) dX3_addBytesOf_55 ?_
          refine k1 _ (by repeat (first | exact zag.rf | assumption | refine zag.put ?_ (by omega) (by omega) | refine zag.tr ?_ (by assumption) (by omega) (by omega))) ⟨zput_eq, by omega, tAdd_lt hB.2.2.1, fun k hk => ?_⟩
          obtain ⟨w0, w1, w2, w3⟩ := wBy_z x1
          rcases (show k < f ∨ k = f ∨ k = f + 1 ∨ k = f + 2 ∨ k = f + 3 by omega) with h | h | h | h | h
          · rw [zput_ne (by omega), zput_nj (by omega), zput_ne (by omega), zput_nj (by omega), zput_ne (by omega), zput_nj (by omega), zput_ne (by omega), zput_nj (by omega), hB.2.2.2 k h, tAdd_lo h]
          · rw [h, show tAdd t f x1 (f) = wBy x1 0 from tAdd_at (i := 0) (by omega), w0]; rw [zput_ne (by omega), zput_nj (by omega), zput_ne (by omega), zput_nj (by omega), zput_ne (by omega), zput_nj (by omega), zput_ne (by omega), zput_eq]
          · rw [h, show tAdd t f x1 (f + 1) = wBy x1 1 from tAdd_at (i := 1) (by omega), w1]; rw [zput_ne (by omega), zput_nj (by omega), zput_ne (by omega), zput_nj (by omega), zput_ne (by omega), zput_eq]
          · rw [h, show tAdd t f x1 (f + 2) = wBy x1 2 from tAdd_at (i := 2) (by omega), w2]; rw [zput_ne (by omega), zput_nj (by omega), zput_ne (by omega), zput_eq]
          · rw [h, show tAdd t f x1 (f + 3) = wBy x1 3 from tAdd_at (i := 3) (by omega), w3]; rw [zput_ne (by omega), zput_eq]
