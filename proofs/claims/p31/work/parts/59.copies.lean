/-! ===== copies of gates and of stations ===== -/
theorem zj7 {f g : Nat → Int32} (h0 : f 0 = g 0) (h1 : f 1 = g 1) (h2 : f 2 = g 2) (h3 : f 3 = g 3) (h4 : f 4 = g 4) (h5 : f 5 = g 5) (h6 : f 6 = g 6) : ∀ j : Nat, j < 7 → f j = g j
  | 0, _ => h0 | 1, _ => h1 | 2, _ => h2 | 3, _ => h3 | 4, _ => h4 | 5, _ => h5 | 6, _ => h6
  | n + 7, h => absurd h (by omega)
abbrev zrm_X9_copy : Room := { frames := 3, cells := 9, slots := 61, locals := 54 }
set_option maxRecDepth 20000 in
theorem zd_X9_copy {l : Launch} {D : va_G} {b0 : Nat} {tA : Nat → ClassId} {sa sv : Nat → Nat} {K : zKt} {I : zI} {Qd : zKt → zI → Option AV → Prop} {a c0 d0 c1 d1 : Nat} {w0 w1 : List Nat}
    (ha : K.1 a = some 14) (hc0 : ∃ k, K.1 c0 = some k) (hd0 : ∃ k, K.1 d0 = some k) (hc1 : ∃ k, K.1 c1 = some k) (hd1 : ∃ k, K.1 d1 = some k) (r7 : K.2 a 7 = some c0) (r8 : K.2 a 8 = some c1) (r1 : K.2 c0 1 = some d0) (r2 : K.2 c1 1 = some d1) (hL0 : zLm I c0 d0 w0) (hL1 : zLm I c1 d1 w1) (hl0 : w0.length < 11) (hl1 : w1.length < 11) (k1 : ∀ (K' : zKt) (x y0 b0 y1 b1 : Nat) (J : zI), kfr K x → kex K K' → (x < y0 ∧ y0 < b0 ∧ b0 < y1 ∧ y1 < b1) → (K'.1 x = some 14 ∧ K'.1 y0 = some 15 ∧ K'.1 b0 = some 18 ∧ K'.1 y1 = some 15 ∧ K'.1 b1 = some 18) → (K'.2 x 7 = some y0 ∧ K'.2 x 8 = some y1 ∧ K'.2 y0 1 = some b0 ∧ K'.2 y1 1 = some b1) → (∀ j : Nat, j < 7 → J x j = I a j) → zLm J y0 b0 w0 → zLm J y1 b1 w1 → (∀ q, q < x → K'.2 q = K.2 q ∧ J q = I q) → Qd K' J (some (vr x 14))) :
    zD l D b0 tA sa sv K yX9_copy (.code yX9_copy cX9_copy 2 (some (.object "GateRowLaw$Gate"))) zrm_X9_copy [vr (a) 14] I Qd := by
  obtain ⟨kc0, hc0⟩ := hc0
  obtain ⟨kd0, hd0⟩ := hd0
  obtain ⟨kc1, hc1⟩ := hc1
  obtain ⟨kd1, hd1⟩ := hd1
  refine zD_of (by decide +kernel) (Nat.le_of_ble_eq_true rfl) ?_
  intro p e s m args below meth c X hnt
  have X : zX p l e zrm_X9_copy s m args below meth c RX9 cX9_copy 2 (some (.object "GateRowLaw$Gate")) D b0 tA sa sv := X
  refine zr_lv (lv2 := [some (vr (a) 14), none]) rfl ?_
  refine zr_new X znw_X9_8 ⟨by decide, by decide⟩ dX9_copy_0 (fun z1 hf2 hb3 => ?_)
  have := hf2 _ _ ha
  have hk4 := kup_ex (k := 14) hf2 _ _ ha
  have := hf2 _ _ hc0
  have hk5 := kup_ex (k := 14) hf2 _ _ hc0
  have := hf2 _ _ hd0
  have hk6 := kup_ex (k := 14) hf2 _ _ hd0
  have := hf2 _ _ hc1
  have hk7 := kup_ex (k := 14) hf2 _ _ hc1
  have := hf2 _ _ hd1
  have hk8 := kup_ex (k := 14) hf2 _ _ hd1
  have hk9 : (kup K z1 14).1 z1 = some 14 := kup_new
  refine zr_dupR X dX9_copy_3 ?_
  refine zr_aload0 X dX9_copy_4 ?_
  refine zr_getI X zf_X9_39 rfl dX9_copy_5 ?_
  refine zr_eq (x2 := (I (a) 0)) ((congrFun (zz_ne (by omega)) 0)) ?_
  refine zr_initD (rm9 := zrm_X9_init) (As := [vi ((I (a) 0))]) (st := [vr (z1) 14]) X zin_X9_45 rfl rfl ⟨by decide, Nat.le_of_ble_eq_true rfl⟩ ⟨by decide, by decide⟩ (Nat.le_of_ble_eq_true rfl) dX9_copy_8 ?_
  refine zd_X9_init hk9 (fun K10 y11 b12 y13 b14 J15 hf16 hx17 hl18 hl19 hl20 hkn21 hr22 hv23 hv24 hv25 hfr26 => ?_)
  intro hq27
  have hk28 := hx17 _ _ hk4
  have := hf16 _ _ hk4
  have hk29 := hx17 _ _ hk5
  have := hf16 _ _ hk5
  have hk30 := hx17 _ _ hk6
  have := hf16 _ _ hk6
  have hk31 := hx17 _ _ hk7
  have := hf16 _ _ hk7
  have hk32 := hx17 _ _ hk8
  have := hf16 _ _ hk8
  have hk33 := hx17 _ _ hk9
  have := hf16 _ _ hk9
  refine zr_astore1 X (by decide) rfl dX9_copy_11 ?_
  refine zr_aload1 X dX9_copy_12 ?_
  refine zr_aload0 X dX9_copy_13 ?_
  refine zr_getI X zf_X9_7 rfl dX9_copy_14 ?_
  refine zr_eq (x2 := (I (a) 1)) ((congrFun (hfr26 (a) (by omega) (by omega)).2 1).trans ((congrFun (zz_ne (by omega)) 1))) ?_
  refine zr_putI X zf_X9_7 rfl (Or.inl rfl) dX9_copy_17 ?_
  refine zr_aload1 X dX9_copy_20 ?_
  refine zr_aload0 X dX9_copy_21 ?_
  refine zr_getI X zf_X9_13 rfl dX9_copy_22 ?_
  refine zr_eq (x2 := (I (a) 2)) ((zput_ne (by omega)).trans ((congrFun (hfr26 (a) (by omega) (by omega)).2 2).trans ((congrFun (zz_ne (by omega)) 2)))) ?_
  refine zr_putI X zf_X9_13 rfl (Or.inl rfl) dX9_copy_25 ?_
  refine zr_aload1 X dX9_copy_28 ?_
  refine zr_aload0 X dX9_copy_29 ?_
  refine zr_getZ X zf_X9_16 rfl rfl (by decide) dX9_copy_30 (fun hz34 => ?_)
  refine zr_eq (x2 := (I (a) 3)) ((zput_ne (by omega)).trans ((zput_ne (by omega)).trans ((congrFun (hfr26 (a) (by omega) (by omega)).2 3).trans ((congrFun (zz_ne (by omega)) 3))))) ?_
  have hz34 := hz34.imp (fun h => ((zput_ne (by omega)).trans ((zput_ne (by omega)).trans ((congrFun (hfr26 (a) (by omega) (by omega)).2 3).trans ((congrFun (zz_ne (by omega)) 3))))).symm.trans h) (fun h => ((zput_ne (by omega)).trans ((zput_ne (by omega)).trans ((congrFun (hfr26 (a) (by omega) (by omega)).2 3).trans ((congrFun (zz_ne (by omega)) 3))))).symm.trans h)
  refine zr_putI X zf_X9_16 rfl (Or.inr (by first | decide | assumption | (simp; done))) dX9_copy_33 ?_
  refine zr_aload1 X dX9_copy_36 ?_
  refine zr_aload0 X dX9_copy_37 ?_
  refine zr_getI X zf_X9_20 rfl dX9_copy_38 ?_
  refine zr_eq (x2 := (I (a) 4)) ((zput_ne (by omega)).trans ((zput_ne (by omega)).trans ((zput_ne (by omega)).trans ((congrFun (hfr26 (a) (by omega) (by omega)).2 4).trans ((congrFun (zz_ne (by omega)) 4)))))) ?_
  refine zr_putI X zf_X9_20 rfl (Or.inl rfl) dX9_copy_41 ?_
  refine zr_aload1 X dX9_copy_44 ?_
  refine zr_aload0 X dX9_copy_45 ?_
  refine zr_getI X zf_X9_23 rfl dX9_copy_46 ?_
  refine zr_eq (x2 := (I (a) 5)) ((zput_ne (by omega)).trans ((zput_ne (by omega)).trans ((zput_ne (by omega)).trans ((zput_ne (by omega)).trans ((congrFun (hfr26 (a) (by omega) (by omega)).2 5).trans ((congrFun (zz_ne (by omega)) 5))))))) ?_
  refine zr_putI X zf_X9_23 rfl (Or.inl rfl) dX9_copy_49 ?_
  refine zr_aload1 X dX9_copy_52 ?_
  refine zr_aload0 X dX9_copy_53 ?_
  refine zr_getI X zf_X9_26 rfl dX9_copy_54 ?_
  refine zr_eq (x2 := (I (a) 6)) ((zput_ne (by omega)).trans ((zput_ne (by omega)).trans ((zput_ne (by omega)).trans ((zput_ne (by omega)).trans ((zput_ne (by omega)).trans ((congrFun (hfr26 (a) (by omega) (by omega)).2 6).trans ((congrFun (zz_ne (by omega)) 6)))))))) ?_
  refine zr_putI X zf_X9_26 rfl (Or.inl rfl) dX9_copy_57 ?_
  refine zr_aload1 X dX9_copy_60 ?_
  refine zr_aload0 X dX9_copy_61 ?_
  refine zr_getD (r := c0) X zf_X9_32 rfl (by decide) ((congrFun (hfr26 (a) (by omega) (by omega)).1 7).trans ((kup_old2 (by omega)).trans ((r7)))) dX9_copy_62 ?_
  refine zr_callVD (rm9 := zrm_X10_copy) (As := []) (st := [vr (z1) 14]) X zm_X9_48 rfl rfl ⟨by decide, Nat.le_of_ble_eq_true rfl⟩ ⟨by decide, by decide⟩ (Nat.le_of_ble_eq_true rfl) dX9_copy_65 ?_
  refine zd_X10_copy hk29 hk30 ((congrFun (hfr26 (c0) (by omega) (by omega)).1 1).trans ((kup_old2 (by omega)).trans ((r1)))) (zLm.kept hL0 (funext fun j9 => (zput_ne (by omega)).trans ((zput_ne (by omega)).trans ((zput_ne (by omega)).trans ((zput_ne (by omega)).trans ((zput_ne (by omega)).trans ((zput_ne (by omega)).trans ((congrFun (hfr26 (c0) (by omega) (by omega)).2 j9).trans ((congrFun (zz_ne (by omega)) j9))))))))) (funext fun j9 => (zput_ne (by omega)).trans ((zput_ne (by omega)).trans ((zput_ne (by omega)).trans ((zput_ne (by omega)).trans ((zput_ne (by omega)).trans ((zput_ne (by omega)).trans ((congrFun (hfr26 (d0) (by omega) (by omega)).2 j9).trans ((congrFun (zz_ne (by omega)) j9)))))))))) hl0 (fun K35 y36 b37 J38 hf39 hx40 hl41 hkn42 hkn43 hLn44 hr45 hfr46 => ?_)
  intro hq47
  have hk48 := hx40 _ _ hk28
  have := hf39 _ _ hk28
  have hk49 := hx40 _ _ hk29
  have := hf39 _ _ hk29
  have hk50 := hx40 _ _ hk30
  have := hf39 _ _ hk30
  have hk51 := hx40 _ _ hk31
  have := hf39 _ _ hk31
  have hk52 := hx40 _ _ hk32
  have := hf39 _ _ hk32
  have hk53 := hx40 _ _ hk33
  have := hf39 _ _ hk33
  have hk54 := hx40 _ _ hkn21.1
  have := hf39 _ _ hkn21.1
  have hk55 := hx40 _ _ hkn21.2.1
  have := hf39 _ _ hkn21.2.1
  have hk56 := hx40 _ _ hkn21.2.2.1
  have := hf39 _ _ hkn21.2.2.1
  have hk57 := hx40 _ _ hkn21.2.2.2
  have := hf39 _ _ hkn21.2.2.2
  refine zr_putD X zf_X9_32 (q := 15) rfl (by decide) dX9_copy_68 ?_
  refine zr_aload1 X dX9_copy_71 ?_
  refine zr_aload0 X dX9_copy_72 ?_
  refine zr_getD (r := c1) X zf_X9_36 rfl (by decide) ((kset_ne (by omega)).trans ((congrFun (hfr46 (a) (by omega)).1 8).trans ((congrFun (hfr26 (a) (by omega) (by omega)).1 8).trans ((kup_old2 (by omega)).trans ((r8)))))) dX9_copy_73 ?_
  refine zr_callVD (rm9 := zrm_X10_copy) (As := []) (st := [vr (z1) 14]) X zm_X9_48 rfl rfl ⟨by decide, Nat.le_of_ble_eq_true rfl⟩ ⟨by decide, by decide⟩ (Nat.le_of_ble_eq_true rfl) dX9_copy_76 ?_
  refine zd_X10_copy hk51 hk52 ((kset_ne (by omega)).trans ((congrFun (hfr46 (c1) (by omega)).1 1).trans ((congrFun (hfr26 (c1) (by omega) (by omega)).1 1).trans ((kup_old2 (by omega)).trans ((r2)))))) (zLm.kept hL1 (funext fun j9 => (congrFun (hfr46 (c1) (by omega)).2 j9).trans ((zput_ne (by omega)).trans ((zput_ne (by omega)).trans ((zput_ne (by omega)).trans ((zput_ne (by omega)).trans ((zput_ne (by omega)).trans ((zput_ne (by omega)).trans ((congrFun (hfr26 (c1) (by omega) (by omega)).2 j9).trans ((congrFun (zz_ne (by omega)) j9)))))))))) (funext fun j9 => (congrFun (hfr46 (d1) (by omega)).2 j9).trans ((zput_ne (by omega)).trans ((zput_ne (by omega)).trans ((zput_ne (by omega)).trans ((zput_ne (by omega)).trans ((zput_ne (by omega)).trans ((zput_ne (by omega)).trans ((congrFun (hfr26 (d1) (by omega) (by omega)).2 j9).trans ((congrFun (zz_ne (by omega)) j9))))))))))) hl1 (fun K58 y59 b60 J61 hf62 hx63 hl64 hkn65 hkn66 hLn67 hr68 hfr69 => ?_)
  intro hq70
  have hk71 := hx63 _ _ hk48
  have := hf62 _ _ hk48
  have hk72 := hx63 _ _ hk49
  have := hf62 _ _ hk49
  have hk73 := hx63 _ _ hk50
  have := hf62 _ _ hk50
  have hk74 := hx63 _ _ hk51
  have := hf62 _ _ hk51
  have hk75 := hx63 _ _ hk52
  have := hf62 _ _ hk52
  have hk76 := hx63 _ _ hk53
  have := hf62 _ _ hk53
  have hk77 := hx63 _ _ hk54
  have := hf62 _ _ hk54
  have hk78 := hx63 _ _ hk55
  have := hf62 _ _ hk55
  have hk79 := hx63 _ _ hk56
  have := hf62 _ _ hk56
  have hk80 := hx63 _ _ hk57
  have := hf62 _ _ hk57
  have hk81 := hx63 _ _ hkn42
  have := hf62 _ _ hkn42
  have hk82 := hx63 _ _ hkn43
  have := hf62 _ _ hkn43
  refine zr_putD X zf_X9_36 (q := 15) rfl (by decide) dX9_copy_79 ?_
  refine zr_aload1 X dX9_copy_82 ?_
  refine zr_aretD X ((((kex.rf.tr (kup_ex hf2)).tr hx17).tr hx40).tr hx63) (by decide) (by decide) dX9_copy_83 ?_
  have hv7 : ∀ j : Nat, j < 7 → _ = I a j := zj7 ((congrFun (hfr69 (z1) (by omega)).2 0).trans ((congrFun (hfr46 (z1) (by omega)).2 0).trans ((zput_nj (by decide)).trans ((zput_nj (by decide)).trans ((zput_nj (by decide)).trans ((zput_nj (by decide)).trans ((zput_nj (by decide)).trans ((zput_nj (by decide)).trans (hv23.1))))))))) ((congrFun (hfr69 (z1) (by omega)).2 1).trans ((congrFun (hfr46 (z1) (by omega)).2 1).trans ((zput_nj (by decide)).trans ((zput_nj (by decide)).trans ((zput_nj (by decide)).trans ((zput_nj (by decide)).trans ((zput_nj (by decide)).trans (zput_eq)))))))) ((congrFun (hfr69 (z1) (by omega)).2 2).trans ((congrFun (hfr46 (z1) (by omega)).2 2).trans ((zput_nj (by decide)).trans ((zput_nj (by decide)).trans ((zput_nj (by decide)).trans ((zput_nj (by decide)).trans (zput_eq))))))) ((congrFun (hfr69 (z1) (by omega)).2 3).trans ((congrFun (hfr46 (z1) (by omega)).2 3).trans ((zput_nj (by decide)).trans ((zput_nj (by decide)).trans ((zput_nj (by decide)).trans (zput_eq)))))) ((congrFun (hfr69 (z1) (by omega)).2 4).trans ((congrFun (hfr46 (z1) (by omega)).2 4).trans ((zput_nj (by decide)).trans ((zput_nj (by decide)).trans (zput_eq))))) ((congrFun (hfr69 (z1) (by omega)).2 5).trans ((congrFun (hfr46 (z1) (by omega)).2 5).trans ((zput_nj (by decide)).trans (zput_eq)))) ((congrFun (hfr69 (z1) (by omega)).2 6).trans ((congrFun (hfr46 (z1) (by omega)).2 6).trans (zput_eq)))
  exact k1 _ z1 y36 b37 y59 b60 _ hf2 ((((kex.rf.tr (kup_ex hf2)).tr hx17).tr hx40).tr hx63) (by omega) ⟨hk76, hk81, hk82, hkn65, hkn66⟩ ⟨(kset_nj (by decide)).trans ((congrFun (hfr69 (z1) (by omega)).1 7).trans (kset_eq)), kset_eq, (kset_ne (by omega)).trans ((congrFun (hfr69 (y36) (by omega)).1 1).trans ((kset_ne (by omega)).trans (hr45))), (kset_ne (by omega)).trans (hr68)⟩ hv7 (zLm.kept hLn44 (funext fun j9 => (congrFun (hfr69 (y36) (by omega)).2 j9).trans ((Eq.refl (J38 (y36) j9)))) (funext fun j9 => (congrFun (hfr69 (b37) (by omega)).2 j9).trans ((Eq.refl (J38 (b37) j9))))) (zLm.kept hLn67 (funext fun j9 => (Eq.refl (J61 (y59) j9))) (funext fun j9 => (Eq.refl (J61 (b60) j9)))) (fun q hq => ⟨funext fun j9 => (kset_ne (by omega)).trans ((congrFun (hfr69 (q) (by omega)).1 j9).trans ((kset_ne (by omega)).trans ((congrFun (hfr46 (q) (by omega)).1 j9).trans ((congrFun (hfr26 (q) (by omega) (by omega)).1 j9).trans ((kup_old2 (by omega)).trans ((rfl))))))), funext fun j9 => (congrFun (hfr69 (q) (by omega)).2 j9).trans ((congrFun (hfr46 (q) (by omega)).2 j9).trans ((zput_ne (by omega)).trans ((zput_ne (by omega)).trans ((zput_ne (by omega)).trans ((zput_ne (by omega)).trans ((zput_ne (by omega)).trans ((zput_ne (by omega)).trans ((congrFun (hfr26 (q) (by omega) (by omega)).2 j9).trans ((congrFun (zz_ne (by omega)) j9))))))))))⟩)
