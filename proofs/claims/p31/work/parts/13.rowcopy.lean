/-! ===== a row copied ===== -/
theorem zRw_mk {I : zI} {r : Nat} {S : zS} (h2 : I r 2 = sX S 4) (h3 : I r 3 = sX S 5) (h4 : I r 4 = sX S 0) (h5 : I r 5 = sX S 1) (h6 : I r 6 = sX S 6 + 2 * sX S 7 + 4 * sX S 8) (h7 : I r 7 = sX S 2) (h8 : I r 8 = sX S 3) (h9 : I r 9 = sX S 9) (h10 : I r 10 = sX S 10) (h11 : I r 11 = sX S 11) (h12 : I r 12 = sX S 12) (h13 : I r 13 = sX S 15) (h14 : I r 14 = sX S 13) (h15 : I r 15 = sX S 14)
    (hg : ∀ g : Nat, g < 6 → zGt I (r + 1 + 2 + 5 * g) (sG S g) (sL S g 0) (sL S g 1)) (hc : ∀ c : Nat, c < 12 → zCd I (r + 2 + 31 + 1 * c) (sC S c) (znm (sM S c) 6)) : zRw I r S := by
  refine ⟨fun i hi h => ?_, h6, hg, hc⟩
  have key : ∀ i : Nat, i < 16 → i = 0 ∨ i = 1 ∨ i = 2 ∨ i = 3 ∨ i = 4 ∨ i = 5 ∨ i = 6 ∨ i = 7 ∨ i = 8 ∨ i = 9 ∨ i = 10 ∨ i = 11 ∨ i = 12 ∨ i = 13 ∨ i = 14 ∨ i = 15 := by omega
  rcases key i hi with rfl | rfl | rfl | rfl | rfl | rfl | rfl | rfl | rfl | rfl | rfl | rfl | rfl | rfl | rfl | rfl <;> first | assumption | exact absurd rfl h
theorem zq_X0_copyFrom {l : Launch} {D : va_G} {b0 : Nat} {tA : Nat → ClassId} {sa sv : Nat → Nat} {K : zKt} {I : zI} {Qp : zI → Option AV → Prop} {Xp : String → zI → Prop} {a b1 : Nat} {C : Nat → Int32} {nm : Int32} (hC : zCd I b1 C nm) (hd : a ≠ b1) (h : ∀ I' : zI, zag I I' a 1 → zCd I' a C nm → Qp I' none) :
    zC l D b0 tA sa sv K yX0_copyFrom (.code yX0_copyFrom cX0_copyFrom 2 none) zrm_X0_copyFrom [vr (a) 0, vr (b1) 0] I Qp Xp := by
  obtain ⟨c0, c1, c2, c3, c4⟩ := hC
  refine zp_X0_copyFrom (h _ (by repeat (first | exact zag.rf | assumption | refine zag.put ?_ (by omega) (by omega) | refine zag.tr ?_ (by assumption) (by omega) (by omega))) ⟨?_, ?_, ?_, ?_, ?_⟩)
  · rw [zput_nj (by decide), zput_nj (by decide), zput_nj (by decide), zput_nj (by decide), zput_eq]; exact c0
  · rw [zput_nj (by decide), zput_nj (by decide), zput_nj (by decide), zput_eq, zput_ne (Ne.symm hd)]; exact c1
  · rw [zput_nj (by decide), zput_nj (by decide), zput_eq, zput_ne (Ne.symm hd), zput_ne (Ne.symm hd)]; exact c2
  · rw [zput_nj (by decide), zput_eq, zput_ne (Ne.symm hd), zput_ne (Ne.symm hd), zput_ne (Ne.symm hd)]; exact c3
  · rw [zput_eq, zput_ne (Ne.symm hd), zput_ne (Ne.symm hd), zput_ne (Ne.symm hd), zput_ne (Ne.symm hd)]; exact c4
abbrev zrm_X5_copyFrom : Room := { frames := 2, cells := 0, slots := 0, locals := 43 }
set_option maxRecDepth 20000 in
theorem zl2_X5_copyFrom {l : Launch} {D : va_G} {b0 : Nat} {tA : Nat → ClassId} {sa sv : Nat → Nat} {K : zKt} {I : zI} {Qp : zI → Option AV → Prop} {Xp : String → zI → Prop} {p : Program} {e : Env} {s : State} {m : MethodId} {args : Array Value} {below : List Frame} {meth : Method} {c : Code} {a b : Nat} {S : zS}
    (X : zX p l e zrm_X5_copyFrom s m args below meth c RX5 cX5_copyFrom 3 none D b0 tA sa sv) (hnt : ∀ x ∈ c.exceptionTable.toList, False) (hR : zRw I b S) (hd : a + 45 ≤ b ∨ b + 45 ≤ a) (h : ∀ I' : zI, zag I I' a 45 → zRw I' a S → Qp I' none) :
    ∀ (n : Nat) (k : Nat) (J : zI), k ≤ 12 → zag I J a 45 → (∀ c : Nat, c < k → zCd J (a + 2 + 31 + 1 * c) (sC S c) (znm (sM S c) 6)) → (∀ g : Nat, g < 6 → zGt J (a + 1 + 2 + 5 * g) (sG S g) (sL S g 0) (sL S g 1)) → 12 - k < n → zG p l e zrm_X5_copyFrom s m args below meth c 3 D b0 tA sa 0 0 (zQ below D b0 tA sa K args s zrm_X5_copyFrom Qp Xp) K 43 [some (vr (a) 5), some (vr (b) 5), some (vi ((nI k)))] [] J := by
  intro n
  induction n with
  | zero => intro k J i1 i2 i3 i4 i5; exact absurd i5 (Nat.not_lt_zero _)
  | succ n ih =>
    intro k J i1 i2 i3 i4 i5
    refine zr_iload2 X dX5_copyFrom_43 ?_
    refine zr_aload0 X dX5_copyFrom_44 ?_
    refine zr_getR X zf_X5_19 rfl (by decide) (by decide) dX5_copyFrom_45 ?_
    refine zr_alen (v := 12) X (Or.inr (Or.inl rfl)) rfl dX5_copyFrom_48 ?_
    refine zr_nicmp_ge X (k) (12) (tgt := 82) (by omega) (by omega) dX5_copyFrom_49 (by decide) (fun h1 => ?_) (fun h1 => ?_)
    · skip
      refine zr_aload0 X dX5_copyFrom_82 ?_
      refine zr_aload1 X dX5_copyFrom_83 ?_
      refine zr_getI X zf_X5_39 rfl dX5_copyFrom_84 ?_
      refine zr_eq (x2 := (I (b) 2)) ((congrFun (i2 (b) (by omega)) 2)) ?_
      refine zr_putI X zf_X5_39 rfl (Or.inl rfl) dX5_copyFrom_87 ?_
      refine zr_aload0 X dX5_copyFrom_90 ?_
      refine zr_aload1 X dX5_copyFrom_91 ?_
      refine zr_getI X zf_X5_42 rfl dX5_copyFrom_92 ?_
      refine zr_eq (x2 := (I (b) 3)) ((zput_ne (by omega)).trans ((congrFun (i2 (b) (by omega)) 3))) ?_
      refine zr_putI X zf_X5_42 rfl (Or.inl rfl) dX5_copyFrom_95 ?_
      refine zr_aload0 X dX5_copyFrom_98 ?_
      refine zr_aload1 X dX5_copyFrom_99 ?_
      refine zr_getI X zf_X5_23 rfl dX5_copyFrom_100 ?_
      refine zr_eq (x2 := (I (b) 4)) ((zput_ne (by omega)).trans ((zput_ne (by omega)).trans ((congrFun (i2 (b) (by omega)) 4)))) ?_
      refine zr_putI X zf_X5_23 rfl (Or.inl rfl) dX5_copyFrom_103 ?_
      refine zr_aload0 X dX5_copyFrom_106 ?_
      refine zr_aload1 X dX5_copyFrom_107 ?_
      refine zr_getI X zf_X5_27 rfl dX5_copyFrom_108 ?_
      refine zr_eq (x2 := (I (b) 5)) ((zput_ne (by omega)).trans ((zput_ne (by omega)).trans ((zput_ne (by omega)).trans ((congrFun (i2 (b) (by omega)) 5))))) ?_
      refine zr_putI X zf_X5_27 rfl (Or.inl rfl) dX5_copyFrom_111 ?_
      refine zr_aload0 X dX5_copyFrom_114 ?_
      refine zr_aload1 X dX5_copyFrom_115 ?_
      refine zr_getI X zf_X5_45 rfl dX5_copyFrom_116 ?_
      refine zr_eq (x2 := (I (b) 6)) ((zput_ne (by omega)).trans ((zput_ne (by omega)).trans ((zput_ne (by omega)).trans ((zput_ne (by omega)).trans ((congrFun (i2 (b) (by omega)) 6)))))) ?_
      refine zr_putI X zf_X5_45 rfl (Or.inl rfl) dX5_copyFrom_119 ?_
      refine zr_aload0 X dX5_copyFrom_122 ?_
      refine zr_aload1 X dX5_copyFrom_123 ?_
      refine zr_getI X zf_X5_48 rfl dX5_copyFrom_124 ?_
      refine zr_eq (x2 := (I (b) 7)) ((zput_ne (by omega)).trans ((zput_ne (by omega)).trans ((zput_ne (by omega)).trans ((zput_ne (by omega)).trans ((zput_ne (by omega)).trans ((congrFun (i2 (b) (by omega)) 7))))))) ?_
      refine zr_putI X zf_X5_48 rfl (Or.inl rfl) dX5_copyFrom_127 ?_
      refine zr_aload0 X dX5_copyFrom_130 ?_
      refine zr_aload1 X dX5_copyFrom_131 ?_
      refine zr_getI X zf_X5_51 rfl dX5_copyFrom_132 ?_
      refine zr_eq (x2 := (I (b) 8)) ((zput_ne (by omega)).trans ((zput_ne (by omega)).trans ((zput_ne (by omega)).trans ((zput_ne (by omega)).trans ((zput_ne (by omega)).trans ((zput_ne (by omega)).trans ((congrFun (i2 (b) (by omega)) 8)))))))) ?_
      refine zr_putI X zf_X5_51 rfl (Or.inl rfl) dX5_copyFrom_135 ?_
      refine zr_aload0 X dX5_copyFrom_138 ?_
      refine zr_aload1 X dX5_copyFrom_139 ?_
      refine zr_getI X zf_X5_54 rfl dX5_copyFrom_140 ?_
      refine zr_eq (x2 := (I (b) 9)) ((zput_ne (by omega)).trans ((zput_ne (by omega)).trans ((zput_ne (by omega)).trans ((zput_ne (by omega)).trans ((zput_ne (by omega)).trans ((zput_ne (by omega)).trans ((zput_ne (by omega)).trans ((congrFun (i2 (b) (by omega)) 9))))))))) ?_
      refine zr_putI X zf_X5_54 rfl (Or.inl rfl) dX5_copyFrom_143 ?_
      refine zr_aload0 X dX5_copyFrom_146 ?_
      refine zr_aload1 X dX5_copyFrom_147 ?_
      refine zr_getI X zf_X5_57 rfl dX5_copyFrom_148 ?_
      refine zr_eq (x2 := (I (b) 10)) ((zput_ne (by omega)).trans ((zput_ne (by omega)).trans ((zput_ne (by omega)).trans ((zput_ne (by omega)).trans ((zput_ne (by omega)).trans ((zput_ne (by omega)).trans ((zput_ne (by omega)).trans ((zput_ne (by omega)).trans ((congrFun (i2 (b) (by omega)) 10)))))))))) ?_
      refine zr_putI X zf_X5_57 rfl (Or.inl rfl) dX5_copyFrom_151 ?_
      refine zr_aload0 X dX5_copyFrom_154 ?_
      refine zr_aload1 X dX5_copyFrom_155 ?_
      refine zr_getI X zf_X5_60 rfl dX5_copyFrom_156 ?_
      refine zr_eq (x2 := (I (b) 11)) ((zput_ne (by omega)).trans ((zput_ne (by omega)).trans ((zput_ne (by omega)).trans ((zput_ne (by omega)).trans ((zput_ne (by omega)).trans ((zput_ne (by omega)).trans ((zput_ne (by omega)).trans ((zput_ne (by omega)).trans ((zput_ne (by omega)).trans ((congrFun (i2 (b) (by omega)) 11))))))))))) ?_
      refine zr_putI X zf_X5_60 rfl (Or.inl rfl) dX5_copyFrom_159 ?_
      refine zr_aload0 X dX5_copyFrom_162 ?_
      refine zr_aload1 X dX5_copyFrom_163 ?_
      refine zr_getI X zf_X5_63 rfl dX5_copyFrom_164 ?_
      refine zr_eq (x2 := (I (b) 12)) ((zput_ne (by omega)).trans ((zput_ne (by omega)).trans ((zput_ne (by omega)).trans ((zput_ne (by omega)).trans ((zput_ne (by omega)).trans ((zput_ne (by omega)).trans ((zput_ne (by omega)).trans ((zput_ne (by omega)).trans ((zput_ne (by omega)).trans ((zput_ne (by omega)).trans ((congrFun (i2 (b) (by omega)) 12)))))))))))) ?_
      refine zr_putI X zf_X5_63 rfl (Or.inl rfl) dX5_copyFrom_167 ?_
      refine zr_aload0 X dX5_copyFrom_170 ?_
      refine zr_aload1 X dX5_copyFrom_171 ?_
      refine zr_getI X zf_X5_66 rfl dX5_copyFrom_172 ?_
      refine zr_eq (x2 := (I (b) 13)) ((zput_ne (by omega)).trans ((zput_ne (by omega)).trans ((zput_ne (by omega)).trans ((zput_ne (by omega)).trans ((zput_ne (by omega)).trans ((zput_ne (by omega)).trans ((zput_ne (by omega)).trans ((zput_ne (by omega)).trans ((zput_ne (by omega)).trans ((zput_ne (by omega)).trans ((zput_ne (by omega)).trans ((congrFun (i2 (b) (by omega)) 13))))))))))))) ?_
      refine zr_putI X zf_X5_66 rfl (Or.inl rfl) dX5_copyFrom_175 ?_
      refine zr_aload0 X dX5_copyFrom_178 ?_
      refine zr_aload1 X dX5_copyFrom_179 ?_
      refine zr_getI X zf_X5_69 rfl dX5_copyFrom_180 ?_
      refine zr_eq (x2 := (I (b) 14)) ((zput_ne (by omega)).trans ((zput_ne (by omega)).trans ((zput_ne (by omega)).trans ((zput_ne (by omega)).trans ((zput_ne (by omega)).trans ((zput_ne (by omega)).trans ((zput_ne (by omega)).trans ((zput_ne (by omega)).trans ((zput_ne (by omega)).trans ((zput_ne (by omega)).trans ((zput_ne (by omega)).trans ((zput_ne (by omega)).trans ((congrFun (i2 (b) (by omega)) 14)))))))))))))) ?_
      refine zr_putI X zf_X5_69 rfl (Or.inl rfl) dX5_copyFrom_183 ?_
      refine zr_aload0 X dX5_copyFrom_186 ?_
      refine zr_aload1 X dX5_copyFrom_187 ?_
      refine zr_getI X zf_X5_72 rfl dX5_copyFrom_188 ?_
      refine zr_eq (x2 := (I (b) 15)) ((zput_ne (by omega)).trans ((zput_ne (by omega)).trans ((zput_ne (by omega)).trans ((zput_ne (by omega)).trans ((zput_ne (by omega)).trans ((zput_ne (by omega)).trans ((zput_ne (by omega)).trans ((zput_ne (by omega)).trans ((zput_ne (by omega)).trans ((zput_ne (by omega)).trans ((zput_ne (by omega)).trans ((zput_ne (by omega)).trans ((zput_ne (by omega)).trans ((congrFun (i2 (b) (by omega)) 15))))))))))))))) ?_
      refine zr_putI X zf_X5_72 rfl (Or.inl rfl) dX5_copyFrom_191 ?_
      refine zr_vret X (by decide) (by decide) dX5_copyFrom_194 ?_
      have hk : k = 12 := by omega
      subst hk
      refine h _ ?_ (zRw_mk ?_ ?_ ?_ ?_ ?_ ?_ ?_ ?_ ?_ ?_ ?_ ?_ ?_ ?_ (fun g hg => ((i4 g hg).ag (lo := a) (n := 1) ?_ (by omega))) (fun c hc => ((i3 c hc).ag (lo := a) (n := 1) ?_ (by omega))))
      · repeat (first | exact zag.rf | assumption | refine zag.put ?_ (by omega) (by omega) | refine zag.tr ?_ (by assumption) (by omega) (by omega))
      · exact ((zput_nj (by decide)).trans ((zput_nj (by decide)).trans ((zput_nj (by decide)).trans ((zput_nj (by decide)).trans ((zput_nj (by decide)).trans ((zput_nj (by decide)).trans ((zput_nj (by decide)).trans ((zput_nj (by decide)).trans ((zput_nj (by decide)).trans ((zput_nj (by decide)).trans ((zput_nj (by decide)).trans ((zput_nj (by decide)).trans ((zput_nj (by decide)).trans (zput_eq)))))))))))))).trans (hR.1 4 (by decide) (by decide))
      · exact ((zput_nj (by decide)).trans ((zput_nj (by decide)).trans ((zput_nj (by decide)).trans ((zput_nj (by decide)).trans ((zput_nj (by decide)).trans ((zput_nj (by decide)).trans ((zput_nj (by decide)).trans ((zput_nj (by decide)).trans ((zput_nj (by decide)).trans ((zput_nj (by decide)).trans ((zput_nj (by decide)).trans ((zput_nj (by decide)).trans (zput_eq))))))))))))).trans (hR.1 5 (by decide) (by decide))
      · exact ((zput_nj (by decide)).trans ((zput_nj (by decide)).trans ((zput_nj (by decide)).trans ((zput_nj (by decide)).trans ((zput_nj (by decide)).trans ((zput_nj (by decide)).trans ((zput_nj (by decide)).trans ((zput_nj (by decide)).trans ((zput_nj (by decide)).trans ((zput_nj (by decide)).trans ((zput_nj (by decide)).trans (zput_eq)))))))))))).trans (hR.1 0 (by decide) (by decide))
      · exact ((zput_nj (by decide)).trans ((zput_nj (by decide)).trans ((zput_nj (by decide)).trans ((zput_nj (by decide)).trans ((zput_nj (by decide)).trans ((zput_nj (by decide)).trans ((zput_nj (by decide)).trans ((zput_nj (by decide)).trans ((zput_nj (by decide)).trans ((zput_nj (by decide)).trans (zput_eq))))))))))).trans (hR.1 1 (by decide) (by decide))
      · exact ((zput_nj (by decide)).trans ((zput_nj (by decide)).trans ((zput_nj (by decide)).trans ((zput_nj (by decide)).trans ((zput_nj (by decide)).trans ((zput_nj (by decide)).trans ((zput_nj (by decide)).trans ((zput_nj (by decide)).trans ((zput_nj (by decide)).trans (zput_eq)))))))))).trans (hR.2.1)
      · exact ((zput_nj (by decide)).trans ((zput_nj (by decide)).trans ((zput_nj (by decide)).trans ((zput_nj (by decide)).trans ((zput_nj (by decide)).trans ((zput_nj (by decide)).trans ((zput_nj (by decide)).trans ((zput_nj (by decide)).trans (zput_eq))))))))).trans (hR.1 2 (by decide) (by decide))
      · exact ((zput_nj (by decide)).trans ((zput_nj (by decide)).trans ((zput_nj (by decide)).trans ((zput_nj (by decide)).trans ((zput_nj (by decide)).trans ((zput_nj (by decide)).trans ((zput_nj (by decide)).trans (zput_eq)))))))).trans (hR.1 3 (by decide) (by decide))
      · exact ((zput_nj (by decide)).trans ((zput_nj (by decide)).trans ((zput_nj (by decide)).trans ((zput_nj (by decide)).trans ((zput_nj (by decide)).trans ((zput_nj (by decide)).trans (zput_eq))))))).trans (hR.1 9 (by decide) (by decide))
      · exact ((zput_nj (by decide)).trans ((zput_nj (by decide)).trans ((zput_nj (by decide)).trans ((zput_nj (by decide)).trans ((zput_nj (by decide)).trans (zput_eq)))))).trans (hR.1 10 (by decide) (by decide))
      · exact ((zput_nj (by decide)).trans ((zput_nj (by decide)).trans ((zput_nj (by decide)).trans ((zput_nj (by decide)).trans (zput_eq))))).trans (hR.1 11 (by decide) (by decide))
      · exact ((zput_nj (by decide)).trans ((zput_nj (by decide)).trans ((zput_nj (by decide)).trans (zput_eq)))).trans (hR.1 12 (by decide) (by decide))
      · exact ((zput_nj (by decide)).trans ((zput_nj (by decide)).trans (zput_eq))).trans (hR.1 15 (by decide) (by decide))
      · exact ((zput_nj (by decide)).trans (zput_eq)).trans (hR.1 13 (by decide) (by decide))
      · exact (zput_eq).trans (hR.1 14 (by decide) (by decide))
      · repeat (first | exact zag.rf | assumption | refine zag.put ?_ (by omega) (by omega) | refine zag.tr ?_ (by assumption) (by omega) (by omega))
      · repeat (first | exact zag.rf | assumption | refine zag.put ?_ (by omega) (by omega) | refine zag.tr ?_ (by assumption) (by omega) (by omega))
    · skip
      refine zr_iload2 X dX5_copyFrom_52 ?_
      refine zr_aload1 X dX5_copyFrom_53 ?_
      refine zr_getR X zf_X5_19 rfl (by decide) (by decide) dX5_copyFrom_54 ?_
      refine zr_alen (v := 12) X (Or.inr (Or.inl rfl)) rfl dX5_copyFrom_57 ?_
      refine zr_nicmp_ge X (k) (12) (tgt := 82) (by omega) (by omega) dX5_copyFrom_58 (by decide) (fun h2 => ?_) (fun h2 => ?_)
      · exact absurd h2 (by omega)
      · skip
        refine zr_aload0 X dX5_copyFrom_61 ?_
        refine zr_getR X zf_X5_19 rfl (by decide) (by decide) dX5_copyFrom_62 ?_
        refine zr_iload2 X dX5_copyFrom_65 ?_
        refine zr_aaldN X rfl rfl (by decide) (show _ < 12 from (by first | assumption | omega)) dX5_copyFrom_66 ?_
        refine zr_aload1 X dX5_copyFrom_67 ?_
        refine zr_getR X zf_X5_19 rfl (by decide) (by decide) dX5_copyFrom_68 ?_
        refine zr_iload2 X dX5_copyFrom_71 ?_
        refine zr_aaldN X rfl rfl (by decide) (show _ < 12 from (by first | assumption | omega)) dX5_copyFrom_72 ?_
        refine zr_callV1 (rm9 := zrm_X0_copyFrom) X hnt zm_X5_36 (by decide) (by decide) (by decide) (Nat.le_of_ble_eq_true rfl) dX5_copyFrom_73 ?_
        refine zq_X0_copyFrom ((hR.2.2.2 k (by omega)).ag i2 (by omega)) (by omega) ?_
        intro J1 hg2 hl3
        refine zr_iinc2 (v := (nI (k + 1))) X (show nI (k) + Int32.ofInt 1 = nI (k + 1) from nI_1 (k)) (by decide) rfl dX5_copyFrom_76 ?_
        refine zr_goto (tgt := 43) X dX5_copyFrom_79 (by decide) ?_
        exact ih (k + 1) J1 (by omega) (by repeat (first | exact zag.rf | assumption | refine zag.put ?_ (by omega) (by omega) | refine zag.tr ?_ (by assumption) (by omega) (by omega))) (fun c hc => by rcases Nat.lt_succ_iff_lt_or_eq.mp hc with q | rfl; exact (i3 c q).ag hg2 (by omega); exact hl3) (fun g hg => (i4 g hg).ag hg2 (by omega)) (by omega)
set_option maxRecDepth 20000 in
theorem zl_X5_copyFrom {l : Launch} {D : va_G} {b0 : Nat} {tA : Nat → ClassId} {sa sv : Nat → Nat} {K : zKt} {I : zI} {Qp : zI → Option AV → Prop} {Xp : String → zI → Prop} {p : Program} {e : Env} {s : State} {m : MethodId} {args : Array Value} {below : List Frame} {meth : Method} {c : Code} {a b : Nat} {S : zS}
    (X : zX p l e zrm_X5_copyFrom s m args below meth c RX5 cX5_copyFrom 3 none D b0 tA sa sv) (hnt : ∀ x ∈ c.exceptionTable.toList, False) (hR : zRw I b S) (hd : a + 45 ≤ b ∨ b + 45 ≤ a) (h : ∀ I' : zI, zag I I' a 45 → zRw I' a S → Qp I' none) :
    ∀ (n : Nat) (k : Nat) (J : zI), k ≤ 6 → zag I J a 45 → (∀ g : Nat, g < k → zGt J (a + 1 + 2 + 5 * g) (sG S g) (sL S g 0) (sL S g 1)) → 6 - k < n → zG p l e zrm_X5_copyFrom s m args below meth c 3 D b0 tA sa 0 0 (zQ below D b0 tA sa K args s zrm_X5_copyFrom Qp Xp) K 2 [some (vr (a) 5), some (vr (b) 5), some (vi ((nI k)))] [] J := by
  intro n
  induction n with
  | zero => intro k J i1 i2 i3 i5; exact absurd i5 (Nat.not_lt_zero _)
  | succ n ih =>
    intro k J i1 i2 i3 i5
    refine zr_iload2 X dX5_copyFrom_2 ?_
    refine zr_aload0 X dX5_copyFrom_3 ?_
    refine zr_getR X zf_X5_11 rfl (by decide) (by decide) dX5_copyFrom_4 ?_
    refine zr_alen (v := 6) X (Or.inr (Or.inl rfl)) rfl dX5_copyFrom_7 ?_
    refine zr_nicmp_ge X (k) (6) (tgt := 41) (by omega) (by omega) dX5_copyFrom_8 (by decide) (fun h1 => ?_) (fun h1 => ?_)
    · skip
      refine zr_iconst (v := (0 : Int32)) X dX5_copyFrom_41 (by decide) ?_
      refine zr_istore2 X (by decide) rfl dX5_copyFrom_42 ?_
      have hk : k = 6 := by omega
      subst hk
      exact zl2_X5_copyFrom X hnt hR hd h 13 0 J (by omega) i2 (fun c hc => absurd hc (Nat.not_lt_zero _)) i3 (by omega)
    · skip
      refine zr_iload2 X dX5_copyFrom_11 ?_
      refine zr_aload1 X dX5_copyFrom_12 ?_
      refine zr_getR X zf_X5_11 rfl (by decide) (by decide) dX5_copyFrom_13 ?_
      refine zr_alen (v := 6) X (Or.inr (Or.inl rfl)) rfl dX5_copyFrom_16 ?_
      refine zr_nicmp_ge X (k) (6) (tgt := 41) (by omega) (by omega) dX5_copyFrom_17 (by decide) (fun h2 => ?_) (fun h2 => ?_)
      · exact absurd h2 (by omega)
      · skip
        refine zr_aload0 X dX5_copyFrom_20 ?_
        refine zr_getR X zf_X5_11 rfl (by decide) (by decide) dX5_copyFrom_21 ?_
        refine zr_iload2 X dX5_copyFrom_24 ?_
        refine zr_aaldN X rfl rfl (by decide) (show _ < 6 from (by first | assumption | omega)) dX5_copyFrom_25 ?_
        refine zr_aload1 X dX5_copyFrom_26 ?_
        refine zr_getR X zf_X5_11 rfl (by decide) (by decide) dX5_copyFrom_27 ?_
        refine zr_iload2 X dX5_copyFrom_30 ?_
        refine zr_aaldN X rfl rfl (by decide) (show _ < 6 from (by first | assumption | omega)) dX5_copyFrom_31 ?_
        refine zr_callV1 (rm9 := zrm_X1_copyFrom) X hnt zm_X5_32 (by decide) (by decide) (by decide) (Nat.le_of_ble_eq_true rfl) dX5_copyFrom_32 ?_
        refine zp_X1_copyFrom ((hR.2.2.1 k (by omega)).ag i2 (by omega)) (by omega) ?_
        intro J1 hg2 hl3
        refine zr_iinc2 (v := (nI (k + 1))) X (show nI (k) + Int32.ofInt 1 = nI (k + 1) from nI_1 (k)) (by decide) rfl dX5_copyFrom_35 ?_
        refine zr_goto (tgt := 2) X dX5_copyFrom_38 (by decide) ?_
        exact ih (k + 1) J1 (by omega) (by repeat (first | exact zag.rf | assumption | refine zag.put ?_ (by omega) (by omega) | refine zag.tr ?_ (by assumption) (by omega) (by omega))) (fun g hg => by rcases Nat.lt_succ_iff_lt_or_eq.mp hg with q | rfl; exact (i3 g q).ag hg2 (by omega); exact hl3) (by omega)
set_option maxRecDepth 20000 in
theorem zp_X5_copyFrom {l : Launch} {D : va_G} {b0 : Nat} {tA : Nat → ClassId} {sa sv : Nat → Nat} {K : zKt} {I : zI} {Qp : zI → Option AV → Prop} {Xp : String → zI → Prop} {a b : Nat} {S : zS}
    (hR : zRw I b S) (hd : a + 45 ≤ b ∨ b + 45 ≤ a) (h : ∀ I' : zI, zag I I' a 45 → zRw I' a S → Qp I' none) :
    zC l D b0 tA sa sv K yX5_copyFrom (.code yX5_copyFrom cX5_copyFrom 3 none) zrm_X5_copyFrom [vr (a) 5, vr (b) 5] I Qp Xp := by
  refine zC_of (by decide +kernel) (Nat.le_of_ble_eq_true rfl) ?_
  intro p e s m args below meth c X hnt
  have X : zX p l e zrm_X5_copyFrom s m args below meth c RX5 cX5_copyFrom 3 none D b0 tA sa sv := X
  refine zr_lv (lv2 := [some (vr (a) 5), some (vr (b) 5), none]) rfl ?_
  refine zr_iconst (v := (0 : Int32)) X dX5_copyFrom_0 (by decide) ?_
  refine zr_istore2 X (by decide) rfl dX5_copyFrom_1 ?_
  exact zl_X5_copyFrom X hnt hR hd h 7 0 I (by omega) zag.rf (fun c hc => absurd hc (Nat.not_lt_zero _)) (by omega)
