/-! ===== copies of gates and of stations ===== -/
theorem zj7 {f g : Nat → Int32} (h0 : f 0 = g 0) (h1 : f 1 = g 1) (h2 : f 2 = g 2) (h3 : f 3 = g 3) (h4 : f 4 = g 4) (h5 : f 5 = g 5) (h6 : f 6 = g 6) : ∀ j : Nat, j < 7 → f j = g j
  | 0, _ => h0 | 1, _ => h1 | 2, _ => h2 | 3, _ => h3 | 4, _ => h4 | 5, _ => h5 | 6, _ => h6
  | n + 7, h => absurd h (by omega)
abbrev zrm_X9_copy : Room := { frames := 3, cells := 9, slots := 61, locals := 54 }
set_option maxRecDepth 20000 in
theorem zd_X9_copy {l : Launch} {D : va_G} {b0 : Nat} {tA : Nat → ClassId} {sa sv : Nat → Nat} {K : zKt} {I : zI} {Qd : zKt → zI → Option AV → Prop} {a ka c0 d0 c1 d1 : Nat} {w0 w1 : List Nat}
    (ha : K.1 a = some ka) (hc0 : ∃ k, K.1 c0 = some k) (hd0 : ∃ k, K.1 d0 = some k) (hc1 : ∃ k, K.1 c1 = some k) (hd1 : ∃ k, K.1 d1 = some k) (r7 : K.2 a 7 = some c0) (r8 : K.2 a 8 = some c1) (r1 : K.2 c0 1 = some d0) (r2 : K.2 c1 1 = some d1) (hL0 : zLm I c0 d0 w0) (hL1 : zLm I c1 d1 w1) (hl0 : w0.length < 11) (hl1 : w1.length < 11) (k1 : ∀ (K' : zKt) (x y0 b0 y1 b1 : Nat) (J : zI), kfr K x → kex K K' → (x < y0 ∧ y0 < b0 ∧ b0 < y1 ∧ y1 < b1) → (K'.1 x = some 14 ∧ K'.1 y0 = some 15 ∧ K'.1 b0 = some 18 ∧ K'.1 y1 = some 15 ∧ K'.1 b1 = some 18) → (K'.2 x 7 = some y0 ∧ K'.2 x 8 = some y1 ∧ K'.2 y0 1 = some b0 ∧ K'.2 y1 1 = some b1) → (∀ j : Nat, j < 7 → J x j = I a j) → zLm J y0 b0 w0 → zLm J y1 b1 w1 → (∀ q, q < x → K'.2 q = K.2 q ∧ J q = I q) → Qd K' J (some (vr x 14))) :
    zD l D b0 tA sa sv K yX9_copy (.code yX9_copy cX9_copy 2 (some (.object "GateRowLaw$Gate"))) zrm_X9_copy [vr (a) 14] I Qd := by
  obtain ⟨kc0, hc0⟩ := hc0
  obtain ⟨kd0, hd0⟩ := hd0
  obtain ⟨kc1, hc1⟩ := hc1
  obtain ⟨kd1, hd1⟩ := hd1
  refine zD_of (by decide +kernel) (Nat.le_of_ble_eq_true rfl) ?_
  intro p e s m args below meth c X hnt
  have X : zX p l e zrm_X9_copy s m args below meth c RX9 cX9_copy 2 (some (.object "GateRowLaw$Gate")) D b0 tA sa sv := X
  refine zr_lv (lv2 := [some (vr (a) 14), none]) rfl ?_
  refine zr_new X znw_X9_8 ⟨by decide, by decide⟩ dX9_copy_0 (fun z1 hf2 hb3 => ?_)
  have := hf2 _ _ ha
  have hk4 := kup_ex (k := 14) hf2 _ _ ha
  have := hf2 _ _ hc0
  have hk5 := kup_ex (k := 14) hf2 _ _ hc0
  have := hf2 _ _ hd0
  have hk6 := kup_ex (k := 14) hf2 _ _ hd0
  have := hf2 _ _ hc1
  have hk7 := kup_ex (k := 14) hf2 _ _ hc1
  have := hf2 _ _ hd1
  have hk8 := kup_ex (k := 14) hf2 _ _ hd1
  have hk9 : (kup K z1 14).1 z1 = some 14 := kup_new
  refine zr_dupR X dX9_copy_3 ?_
  refine zr_aload0 X dX9_copy_4 ?_
  refine zr_getI X zf_X9_39 rfl dX9_copy_5 ?_
  refine zr_eq (x2 := (I (a) 0)) ((congrFun (zz_ne (by omega)) 0)) ?_
  refine zr_initD (rm9 := zrm_X9_init) (As := [vi ((I (a) 0))]) (st := [vr (z1) 14]) X zin_X9_45 rfl rfl ⟨by decide, Nat.le_of_ble_eq_true rfl⟩ ⟨by decide, by decide⟩ (Nat.le_of_ble_eq_true rfl) dX9_copy_8 ?_
  refine zd_X9_init hk9 (fun K10 y11 b12 y13 b14 J15 hf16 hx17 hl18 hl19 hl20 hkn21 hr22 hv23 hv24 hv25 hfr26 => ?_)
  intro hq27
  have hk28 := hx17 _ _ hk4
  have := hf16 _ _ hk4
  have hk29 := hx17 _ _ hk5
  have := hf16 _ _ hk5
  have hk30 := hx17 _ _ hk6
  have := hf16 _ _ hk6
  have hk31 := hx17 _ _ hk7
  have := hf16 _ _ hk7
  have hk32 := hx17 _ _ hk8
  have := hf16 _ _ hk8
  have hk33 := hx17 _ _ hk9
  have := hf16 _ _ hk9
  refine zr_astore1 X (by decide) rfl dX9_copy_11 ?_
  refine zr_aload1 X dX9_copy_12 ?_
  refine zr_aload0 X dX9_copy_13 ?_
  refine zr_getI X zf_X9_7 rfl dX9_copy_14 ?_
  refine zr_eq (x2 := (I (a) 1)) ((congrFun (hfr26 (a) (by omega) (by omega)).2 1).trans ((congrFun (zz_ne (by omega)) 1))) ?_
  refine zr_putI X zf_X9_7 rfl (Or.inl rfl) dX9_copy_17 ?_
  refine zr_aload1 X dX9_copy_20 ?_
  refine zr_aload0 X dX9_copy_21 ?_
  refine zr_getI X zf_X9_13 rfl dX9_copy_22 ?_
  refine zr_eq (x2 := (I (a) 2)) ((zput_ne (by omega)).trans ((congrFun (hfr26 (a) (by omega) (by omega)).2 2).trans ((congrFun (zz_ne (by omega)) 2)))) ?_
  refine zr_putI X zf_X9_13 rfl (Or.inl rfl) dX9_copy_25 ?_
  refine zr_aload1 X dX9_copy_28 ?_
  refine zr_aload0 X dX9_copy_29 ?_
  refine zr_getZ X zf_X9_16 rfl rfl (by decide) dX9_copy_30 (fun hz34 => ?_)
  refine zr_eq (x2 := (I (a) 3)) ((zput_ne (by omega)).trans ((zput_ne (by omega)).trans ((congrFun (hfr26 (a) (by omega) (by omega)).2 3).trans ((congrFun (zz_ne (by omega)) 3))))) ?_
  have hz34 := hz34.imp (fun h => ((zput_ne (by omega)).trans ((zput_ne (by omega)).trans ((congrFun (hfr26 (a) (by omega) (by omega)).2 3).trans ((congrFun (zz_ne (by omega)) 3))))).symm.trans h) (fun h => ((zput_ne (by omega)).trans ((zput_ne (by omega)).trans ((congrFun (hfr26 (a) (by omega) (by omega)).2 3).trans ((congrFun (zz_ne (by omega)) 3))))).symm.trans h)
  refine zr_putI X zf_X9_16 rfl (Or.inr (by first | decide | assumption | (simp; done))) dX9_copy_33 ?_
  refine zr_aload1 X dX9_copy_36 ?_
  refine zr_aload0 X dX9_copy_37 ?_
  refine zr_getI X zf_X9_20 rfl dX9_copy_38 ?_
  refine zr_eq (x2 := (I (a) 4)) ((zput_ne (by omega)).trans ((zput_ne (by omega)).trans ((zput_ne (by omega)).trans ((congrFun (hfr26 (a) (by omega) (by omega)).2 4).trans ((congrFun (zz_ne (by omega)) 4)))))) ?_
  refine zr_putI X zf_X9_20 rfl (Or.inl rfl) dX9_copy_41 ?_
  refine zr_aload1 X dX9_copy_44 ?_
  refine zr_aload0 X dX9_copy_45 ?_
  refine zr_getI X zf_X9_23 rfl dX9_copy_46 ?_
  refine zr_eq (x2 := (I (a) 5)) ((zput_ne (by omega)).trans ((zput_ne (by omega)).trans ((zput_ne (by omega)).trans ((zput_ne (by omega)).trans ((congrFun (hfr26 (a) (by omega) (by omega)).2 5).trans ((congrFun (zz_ne (by omega)) 5))))))) ?_
  refine zr_putI X zf_X9_23 rfl (Or.inl rfl) dX9_copy_49 ?_
  refine zr_aload1 X dX9_copy_52 ?_
  refine zr_aload0 X dX9_copy_53 ?_
  refine zr_getI X zf_X9_26 rfl dX9_copy_54 ?_
  refine zr_eq (x2 := (I (a) 6)) ((zput_ne (by omega)).trans ((zput_ne (by omega)).trans ((zput_ne (by omega)).trans ((zput_ne (by omega)).trans ((zput_ne (by omega)).trans ((congrFun (hfr26 (a) (by omega) (by omega)).2 6).trans ((congrFun (zz_ne (by omega)) 6)))))))) ?_
  refine zr_putI X zf_X9_26 rfl (Or.inl rfl) dX9_copy_57 ?_
  refine zr_aload1 X dX9_copy_60 ?_
  refine zr_aload0 X dX9_copy_61 ?_
  refine zr_getD (r := c0) X zf_X9_32 rfl (by decide) ((congrFun (hfr26 (a) (by omega) (by omega)).1 7).trans ((kup_old2 (by omega)).trans ((r7)))) dX9_copy_62 ?_
  refine zr_callVD (rm9 := zrm_X10_copy) (As := []) (st := [vr (z1) 14]) X zm_X9_48 rfl rfl ⟨by decide, Nat.le_of_ble_eq_true rfl⟩ ⟨by decide, by decide⟩ (Nat.le_of_ble_eq_true rfl) dX9_copy_65 ?_
  refine zd_X10_copy hk29 hk30 ((congrFun (hfr26 (c0) (by omega) (by omega)).1 1).trans ((kup_old2 (by omega)).trans ((r1)))) (zLm.kept hL0 (funext fun j9 => (zput_ne (by omega)).trans ((zput_ne (by omega)).trans ((zput_ne (by omega)).trans ((zput_ne (by omega)).trans ((zput_ne (by omega)).trans ((zput_ne (by omega)).trans ((congrFun (hfr26 (c0) (by omega) (by omega)).2 j9).trans ((congrFun (zz_ne (by omega)) j9))))))))) (funext fun j9 => (zput_ne (by omega)).trans ((zput_ne (by omega)).trans ((zput_ne (by omega)).trans ((zput_ne (by omega)).trans ((zput_ne (by omega)).trans ((zput_ne (by omega)).trans ((congrFun (hfr26 (d0) (by omega) (by omega)).2 j9).trans ((congrFun (zz_ne (by omega)) j9)))))))))) hl0 (fun K35 y36 b37 J38 hf39 hx40 hl41 hkn42 hkn43 hLn44 hr45 hfr46 => ?_)
  intro hq47
  have hk48 := hx40 _ _ hk28
  have := hf39 _ _ hk28
  have hk49 := hx40 _ _ hk29
  have := hf39 _ _ hk29
  have hk50 := hx40 _ _ hk30
  have := hf39 _ _ hk30
  have hk51 := hx40 _ _ hk31
  have := hf39 _ _ hk31
  have hk52 := hx40 _ _ hk32
  have := hf39 _ _ hk32
  have hk53 := hx40 _ _ hk33
  have := hf39 _ _ hk33
  have hk54 := hx40 _ _ hkn21.1
  have := hf39 _ _ hkn21.1
  have hk55 := hx40 _ _ hkn21.2.1
  have := hf39 _ _ hkn21.2.1
  have hk56 := hx40 _ _ hkn21.2.2.1
  have := hf39 _ _ hkn21.2.2.1
  have hk57 := hx40 _ _ hkn21.2.2.2
  have := hf39 _ _ hkn21.2.2.2
  refine zr_putD X zf_X9_32 (q := 15) rfl (by decide) dX9_copy_68 ?_
  refine zr_aload1 X dX9_copy_71 ?_
  refine zr_aload0 X dX9_copy_72 ?_
  refine zr_getD (r := c1) X zf_X9_36 rfl (by decide) ((kset_ne (by omega)).trans ((congrFun (hfr46 (a) (by omega)).1 8).trans ((congrFun (hfr26 (a) (by omega) (by omega)).1 8).trans ((kup_old2 (by omega)).trans ((r8)))))) dX9_copy_73 ?_
  refine zr_callVD (rm9 := zrm_X10_copy) (As := []) (st := [vr (z1) 14]) X zm_X9_48 rfl rfl ⟨by decide, Nat.le_of_ble_eq_true rfl⟩ ⟨by decide, by decide⟩ (Nat.le_of_ble_eq_true rfl) dX9_copy_76 ?_
  refine zd_X10_copy hk51 hk52 ((kset_ne (by omega)).trans ((congrFun (hfr46 (c1) (by omega)).1 1).trans ((congrFun (hfr26 (c1) (by omega) (by omega)).1 1).trans ((kup_old2 (by omega)).trans ((r2)))))) (zLm.kept hL1 (funext fun j9 => (congrFun (hfr46 (c1) (by omega)).2 j9).trans ((zput_ne (by omega)).trans ((zput_ne (by omega)).trans ((zput_ne (by omega)).trans ((zput_ne (by omega)).trans ((zput_ne (by omega)).trans ((zput_ne (by omega)).trans ((congrFun (hfr26 (c1) (by omega) (by omega)).2 j9).trans ((congrFun (zz_ne (by omega)) j9)))))))))) (funext fun j9 => (congrFun (hfr46 (d1) (by omega)).2 j9).trans ((zput_ne (by omega)).trans ((zput_ne (by omega)).trans ((zput_ne (by omega)).trans ((zput_ne (by omega)).trans ((zput_ne (by omega)).trans ((zput_ne (by omega)).trans ((congrFun (hfr26 (d1) (by omega) (by omega)).2 j9).trans ((congrFun (zz_ne (by omega)) j9))))))))))) hl1 (fun K58 y59 b60 J61 hf62 hx63 hl64 hkn65 hkn66 hLn67 hr68 hfr69 => ?_)
  intro hq70
  have hk71 := hx63 _ _ hk48
  have := hf62 _ _ hk48
  have hk72 := hx63 _ _ hk49
  have := hf62 _ _ hk49
  have hk73 := hx63 _ _ hk50
  have := hf62 _ _ hk50
  have hk74 := hx63 _ _ hk51
  have := hf62 _ _ hk51
  have hk75 := hx63 _ _ hk52
  have := hf62 _ _ hk52
  have hk76 := hx63 _ _ hk53
  have := hf62 _ _ hk53
  have hk77 := hx63 _ _ hk54
  have := hf62 _ _ hk54
  have hk78 := hx63 _ _ hk55
  have := hf62 _ _ hk55
  have hk79 := hx63 _ _ hk56
  have := hf62 _ _ hk56
  have hk80 := hx63 _ _ hk57
  have := hf62 _ _ hk57
  have hk81 := hx63 _ _ hkn42
  have := hf62 _ _ hkn42
  have hk82 := hx63 _ _ hkn43
  have := hf62 _ _ hkn43
  refine zr_putD X zf_X9_36 (q := 15) rfl (by decide) dX9_copy_79 ?_
  refine zr_aload1 X dX9_copy_82 ?_
  refine zr_aretD X ((((kex.rf.tr (kup_ex hf2)).tr hx17).tr hx40).tr hx63) (by decide) (by decide) dX9_copy_83 ?_
  have hv7 : ∀ j : Nat, j < 7 → _ = I a j := zj7 ((congrFun (hfr69 (z1) (by omega)).2 0).trans ((congrFun (hfr46 (z1) (by omega)).2 0).trans ((zput_nj (by decide)).trans ((zput_nj (by decide)).trans ((zput_nj (by decide)).trans ((zput_nj (by decide)).trans ((zput_nj (by decide)).trans ((zput_nj (by decide)).trans (hv23.1))))))))) ((congrFun (hfr69 (z1) (by omega)).2 1).trans ((congrFun (hfr46 (z1) (by omega)).2 1).trans ((zput_nj (by decide)).trans ((zput_nj (by decide)).trans ((zput_nj (by decide)).trans ((zput_nj (by decide)).trans ((zput_nj (by decide)).trans (zput_eq)))))))) ((congrFun (hfr69 (z1) (by omega)).2 2).trans ((congrFun (hfr46 (z1) (by omega)).2 2).trans ((zput_nj (by decide)).trans ((zput_nj (by decide)).trans ((zput_nj (by decide)).trans ((zput_nj (by decide)).trans (zput_eq))))))) ((congrFun (hfr69 (z1) (by omega)).2 3).trans ((congrFun (hfr46 (z1) (by omega)).2 3).trans ((zput_nj (by decide)).trans ((zput_nj (by decide)).trans ((zput_nj (by decide)).trans (zput_eq)))))) ((congrFun (hfr69 (z1) (by omega)).2 4).trans ((congrFun (hfr46 (z1) (by omega)).2 4).trans ((zput_nj (by decide)).trans ((zput_nj (by decide)).trans (zput_eq))))) ((congrFun (hfr69 (z1) (by omega)).2 5).trans ((congrFun (hfr46 (z1) (by omega)).2 5).trans ((zput_nj (by decide)).trans (zput_eq)))) ((congrFun (hfr69 (z1) (by omega)).2 6).trans ((congrFun (hfr46 (z1) (by omega)).2 6).trans (zput_eq)))
  exact k1 _ z1 y36 b37 y59 b60 _ hf2 ((((kex.rf.tr (kup_ex hf2)).tr hx17).tr hx40).tr hx63) (by omega) ⟨hk76, hk81, hk82, hkn65, hkn66⟩ ⟨(kset_nj (by decide)).trans ((congrFun (hfr69 (z1) (by omega)).1 7).trans (kset_eq)), kset_eq, (kset_ne (by omega)).trans ((congrFun (hfr69 (y36) (by omega)).1 1).trans ((kset_ne (by omega)).trans (hr45))), (kset_ne (by omega)).trans (hr68)⟩ hv7 (zLm.kept hLn44 (funext fun j9 => (congrFun (hfr69 (y36) (by omega)).2 j9).trans ((Eq.refl (J38 (y36) j9)))) (funext fun j9 => (congrFun (hfr69 (b37) (by omega)).2 j9).trans ((Eq.refl (J38 (b37) j9))))) (zLm.kept hLn67 (funext fun j9 => (Eq.refl (J61 (y59) j9))) (funext fun j9 => (Eq.refl (J61 (b60) j9)))) (fun q hq => ⟨funext fun j9 => (kset_ne (by omega)).trans ((congrFun (hfr69 (q) (by omega)).1 j9).trans ((kset_ne (by omega)).trans ((congrFun (hfr46 (q) (by omega)).1 j9).trans ((congrFun (hfr26 (q) (by omega) (by omega)).1 j9).trans ((kup_old2 (by omega)).trans ((rfl))))))), funext fun j9 => (congrFun (hfr69 (q) (by omega)).2 j9).trans ((congrFun (hfr46 (q) (by omega)).2 j9).trans ((zput_ne (by omega)).trans ((zput_ne (by omega)).trans ((zput_ne (by omega)).trans ((zput_ne (by omega)).trans ((zput_ne (by omega)).trans ((zput_ne (by omega)).trans ((congrFun (hfr26 (q) (by omega) (by omega)).2 j9).trans ((congrFun (zz_ne (by omega)) j9))))))))))⟩)
theorem zSh.on {K K' : zKt} {A : Nat → Nat} {n m : Nat} (h : zSh K A n m) (hx : kex K K') (e : ∀ i : Nat, zvd n m i → K'.2 (A i) = K.2 (A i)) : zSh K' A n m := by
  obtain ⟨h1, ⟨h2, h3, h4, h5⟩, h6, h7, h8, h9⟩ := h
  have e0 := e 0 (by unfold zvd; omega)
  have e1 := e 1 (by unfold zvd; omega)
  have e2 := e 2 (by unfold zvd; omega)
  refine ⟨h1, ⟨hx _ _ h2, by rw [e0]; exact h3, by rw [e0]; exact h4, by rw [e0]; exact h5⟩, fun g hg => ?_, fun c hc => by rw [e2]; exact h7 c hc, h8, fun i hi => ?_⟩
  · obtain ⟨r1, r2, r3, r4, r5⟩ := h6 g hg
    exact ⟨by rw [e1]; exact r1, by rw [e (4 + 5 * g) (by unfold zvd; omega)]; exact r2, by rw [e (4 + 5 * g) (by unfold zvd; omega)]; exact r3, by rw [e (5 + 5 * g) (by unfold zvd; omega)]; exact r4, by rw [e (7 + 5 * g) (by unfold zvd; omega)]; exact r5⟩
  · obtain ⟨k, hk⟩ := h9 i hi
    exact ⟨k, hx _ _ hk⟩
theorem zSh.lt {K : zKt} {A : Nat → Nat} {n m x : Nat} (h : zSh K A n m) (hx : kfr K x) (i : Nat) (hi : zvd n m i) : A i < x := by
  obtain ⟨k, hk⟩ := h.2.2.2.2.2 i hi
  exact hx _ _ hk
theorem zPt.at3 {K : zKt} {J J' : zI} {A : Nat → Nat} {S : zS} {j c : Nat} (h : zPt K J A S j c) (e : ∀ q : Nat, q ≠ A 3 → J' q = J q) : zPt K J' A S j c := by
  obtain ⟨⟨h1, h2⟩, h3, h7, h8⟩ := h
  have n3 : ∀ i, zvd j c i → 3 < i → J' (A i) = J (A i) := fun i hi h => e _ (by have := h1 3 i (by unfold zvd; omega) hi h; omega)
  refine ⟨⟨h1, h2⟩, h3, fun g hg => ?_, fun k hk => ?_⟩
  · obtain ⟨r, v, w0, w1⟩ := h7 g hg
    have g4 := n3 (4 + 5 * g) (by unfold zvd; omega) (by omega)
    have g5 := n3 (5 + 5 * g) (by unfold zvd; omega) (by omega)
    have g6 := n3 (6 + 5 * g) (by unfold zvd; omega) (by omega)
    have g7 := n3 (7 + 5 * g) (by unfold zvd; omega) (by omega)
    have g8 := n3 (8 + 5 * g) (by unfold zvd; omega) (by omega)
    exact ⟨r, fun i hi => by rw [g4]; exact v i hi, w0.kept g5 g6, w1.kept g7 g8⟩
  · obtain ⟨r1, v⟩ := h8 k hk
    have g4 := n3 (40 + k) (by unfold zvd; omega) (by omega)
    exact ⟨r1, fun i hi => by rw [g4]; exact v i hi⟩
abbrev zrm_X12_copy : Room := { frames := 4, cells := 70, slots := 450, locals := 80 }
set_option maxRecDepth 20000 in
theorem zlG_X12_copy {l : Launch} {D : va_G} {b0 : Nat} {tA : Nat → ClassId} {sa sv : Nat → Nat} {K : zKt} {I : zI} {Qd : zKt → zI → Option AV → Prop} {p : Program} {e : Env} {s : State} {m : MethodId} {args : Array Value} {below : List Frame} {meth : Method} {c : Code} {A : Nat → Nat} {n7 m7 x : Nat} {S : zS} {Iv : Nat → Int32}
    (X : zX p l e zrm_X12_copy s m args below meth c RX12 cX12_copy 3 (some (.object "GateRowLaw$Station")) D b0 tA sa sv) (hnt : ∀ x ∈ c.exceptionTable.toList, False) (hS : zSh K A n7 m7) (hM : zSt I A n7 m7 S) (hl : ∀ g s, (sL S g s).length ≤ 10) (hx0 : kfr K x) (hk : ∀ (B : Nat → Nat) (K9 : zKt) (J : zI) (cells slots : Nat), kex K K9 → zPt K9 J B S n7 0 → (∀ q, q < x → K9.2 q = K.2 q ∧ J q = I q) → B 0 = x → (J x = Iv ∧ ∀ k, J (B 3) k = 0) → cells ≤ 58 → slots ≤ 402 → zG p l e zrm_X12_copy s m args below meth c 3 D b0 tA sa cells slots (zQD below D b0 tA sa K args s zrm_X12_copy Qd) K9 135 [some (vr (A (0)) 17), some (vr (x) 17), none] [] J) :
    ∀ (n : Nat) (j : Nat) (B : Nat → Nat) (K9 : zKt) (J : zI) (cells slots : Nat), j ≤ n7 → kex K K9 → zPt K9 J B S j 0 → (∀ q, q < x → K9.2 q = K.2 q ∧ J q = I q) → B 0 = x → (J x = Iv ∧ ∀ k, J (B 3) k = 0) → cells ≤ 4 + 9 * j → slots ≤ 36 + 61 * j → n7 - j < n → zG p l e zrm_X12_copy s m args below meth c 3 D b0 tA sa cells slots (zQD below D b0 tA sa K args s zrm_X12_copy Qd) K9 106 [some (vr (A (0)) 17), some (vr (x) 17), some (vi ((nI j)))] [] J := by
  intro n
  induction n with
  | zero => intro j B K9 J cells slots i1 ix iP ifr iB iv ic is i9; exact absurd i9 (Nat.not_lt_zero _)
  | succ n ih =>
    intro j B K9 J cells slots i1 ix iP ifr iB iv ic is i9
    have hn6 := hM.1.1
    have hm12 := hM.1.2
    have hS9 : zSh K9 A n7 m7 := hS.on ix (fun i hi => (ifr _ (hS.lt hx0 i hi)).1)
    have hM9 : zSt J A n7 m7 S := hM.on (fun i hi => (ifr _ (hS.lt hx0 i hi)).2)
    refine zr_iload2 X dX12_copy_106 ?_
    refine zr_aload0 X dX12_copy_107 ?_
    refine zr_getI X zf_X12_22 rfl dX12_copy_108 ?_
    refine zr_eq (x2 := (nI n7)) ((hM9.2.2.1 4 (by decide) (by decide)).trans hM9.2.1.1) ?_
    refine zr_nicmp_ge X (j) (n7) (tgt := 135) (by omega) (by omega) dX12_copy_111 (by decide) (fun h1 => ?_) (fun h1 => ?_)
    · skip
      have hj9 : j = n7 := by omega
      subst hj9
      refine zr_forget (lv2 := [some (vr (A (0)) 17), some (vr (x) 17), none]) (fun j9 v9 h9 => by rcases j9 with _ | _ | _ | j9 <;> first | exact h9 | (simp at h9)) ?_
      exact hk B K9 J cells slots ix iP ifr iB iv (by omega) (by omega)
    · skip
      refine zr_aload1 X dX12_copy_114 ?_
      refine zr_getD (r := B (1)) X zf_X12_27 rfl (by decide) ((by have := iP.2.1.2.1; rwa [iB] at this)) dX12_copy_115 ?_
      refine zr_iload2 X dX12_copy_118 ?_
      refine zr_aload0 X dX12_copy_119 ?_
      refine zr_getD (r := A (1)) X zf_X12_27 rfl (by decide) ((hS9.2.1.2.1)) dX12_copy_120 ?_
      refine zr_iload2 X dX12_copy_123 ?_
      refine zr_aaldD (k := 20) (n := j) (r := A (4 + 5 * j)) X rfl (show _ < 6 from (by first | decide | omega)) (((hS9.2.2.1 j (by omega)).1)) dX12_copy_124 ?_
      refine zr_callVD (rm9 := zrm_X9_copy) (As := []) (st := [vi ((nI j)), vr (B (1)) 20]) X zm_X12_63 rfl rfl ⟨by decide, Nat.le_of_ble_eq_true rfl⟩ ⟨by simp only [zrm_X12_copy, zrm_X9_copy, zrm_X8_init, zrm_X12_init]; omega, by simp only [zrm_X12_copy, zrm_X9_copy, zrm_X8_init, zrm_X12_init]; omega⟩ (Nat.le_of_ble_eq_true rfl) dX12_copy_125 ?_
      obtain ⟨kA9, hA9⟩ := (hS9.2.2.2.2.2 (4 + 5 * j) (by unfold zvd; omega))
      refine zd_X9_copy (w0 := sL S j 0) (w1 := sL S j 1) hA9 (hS9.2.2.2.2.2 (5 + 5 * j) (by unfold zvd; omega)) (hS9.2.2.2.2.2 (6 + 5 * j) (by unfold zvd; omega)) (hS9.2.2.2.2.2 (7 + 5 * j) (by unfold zvd; omega)) (hS9.2.2.2.2.2 (8 + 5 * j) (by unfold zvd; omega)) (hS9.2.2.1 j (by omega)).2.1 (hS9.2.2.1 j (by omega)).2.2.1 (hS9.2.2.1 j (by omega)).2.2.2.1 (hS9.2.2.1 j (by omega)).2.2.2.2 (hM9.2.2.2.2.1 j (by omega)).2.1 (hM9.2.2.2.2.1 j (by omega)).2.2 (by have := hl j 0; omega) (by have := hl j 1; omega) (fun K2 y3 y4 b5 y6 b7 J8 hf9 hx10 ho11 hk12 hr13 hv14 hw15 hw16 hfr17 => ?_)
      intro hq18
      refine zr_aastD (k := 20) (n := j) X rfl (show _ < 6 from (by first | decide | omega)) dX12_copy_128 ?_
      refine zr_iinc2 (v := (nI (j + 1))) X (show nI (j) + Int32.ofInt 1 = nI (j + 1) from nI_1 (j)) (by decide) rfl dX12_copy_129 ?_
      refine zr_goto (tgt := 106) X dX12_copy_132 (by decide) ?_
      have hlB : ∀ i, zvd j 0 i → B i < y3 := fun i hi => iP.lt hf9 hi
      have hxl : x < y3 := by have := hlB 0 (by unfold zvd; omega); rwa [iB] at this
      have h1x : x < B 1 := by have := iP.1.1 0 1 (by unfold zvd; omega) (by unfold zvd; omega) (by omega); rwa [iB] at this
      refine ih (j + 1) (zAg B j y3 y4 b5 y6 b7) _ _ _ _ (by omega) (ix.tr (hx10.tr kset_ex)) (zPt.gate iP hf9 hx10 hfr17 ho11.1 ho11.2.1 ho11.2.2.1 ho11.2.2.2 hk12 hr13 (fun i hi => ?_) hw15 hw16) (fun q hq => ⟨(funext fun j9 => kset_ne (by omega)).trans ((hfr17 q (by omega)).1.trans (ifr q hq).1), (hfr17 q (by omega)).2.trans (ifr q hq).2⟩) ((zAg_n (by omega)).trans iB) ⟨(hfr17 x hxl).2.trans iv.1, fun k => ?_⟩ ?_ ?_ (by omega)
      · rw [hv14 i hi]; exact (hM9.2.2.2.2.1 j (by omega)).1 i hi
      · rw [zAg_n (by omega), (hfr17 _ (hlB 3 (by unfold zvd; omega))).2]; exact iv.2 k
      · simp only [zrm_X9_copy]; omega
      · simp only [zrm_X9_copy]; omega
theorem zj4 {f g : Nat → Int32} (h0 : f 0 = g 0) (h1 : f 1 = g 1) (h2 : f 2 = g 2) (h3 : f 3 = g 3) : ∀ j : Nat, j < 4 → f j = g j
  | 0, _ => h0 | 1, _ => h1 | 2, _ => h2 | 3, _ => h3
  | n + 4, h => absurd h (by omega)
set_option maxRecDepth 20000 in
theorem zlC_X12_copy {l : Launch} {D : va_G} {b0 : Nat} {tA : Nat → ClassId} {sa sv : Nat → Nat} {K : zKt} {I : zI} {Qd : zKt → zI → Option AV → Prop} {p : Program} {e : Env} {s : State} {m : MethodId} {args : Array Value} {below : List Frame} {meth : Method} {c : Code} {A : Nat → Nat} {n7 m7 x : Nat} {S : zS} {Iv : Nat → Int32}
    (X : zX p l e zrm_X12_copy s m args below meth c RX12 cX12_copy 3 (some (.object "GateRowLaw$Station")) D b0 tA sa sv) (hnt : ∀ x ∈ c.exceptionTable.toList, False) (hS : zSh K A n7 m7) (hM : zSt I A n7 m7 S) (hl : ∀ g s, (sL S g s).length ≤ 10) (hx0 : kfr K x) (hk : ∀ (B : Nat → Nat) (K9 : zKt) (J : zI) (cells slots : Nat), kex K K9 → zPt K9 J B S n7 m7 → (∀ q, q < x → K9.2 q = K.2 q ∧ J q = I q) → B 0 = x → (J x = Iv ∧ ∀ k, J (B 3) k = 0) → cells ≤ 70 → slots ≤ 450 → zG p l e zrm_X12_copy s m args below meth c 3 D b0 tA sa cells slots (zQD below D b0 tA sa K args s zrm_X12_copy Qd) K9 227 [some (vr (A (0)) 17), some (vr (x) 17), none] [] J) :
    ∀ (n : Nat) (j : Nat) (B : Nat → Nat) (K9 : zKt) (J : zI) (cells slots : Nat), j ≤ m7 → kex K K9 → zPt K9 J B S n7 j → (∀ q, q < x → K9.2 q = K.2 q ∧ J q = I q) → B 0 = x → (J x = Iv ∧ ∀ k, J (B 3) k = 0) → cells ≤ 58 + j → slots ≤ 402 + 4 * j → m7 - j < n → zG p l e zrm_X12_copy s m args below meth c 3 D b0 tA sa cells slots (zQD below D b0 tA sa K args s zrm_X12_copy Qd) K9 137 [some (vr (A (0)) 17), some (vr (x) 17), some (vi ((nI j)))] [] J := by
  intro n
  induction n with
  | zero => intro j B K9 J cells slots i1 ix iP ifr iB iv ic is i9; exact absurd i9 (Nat.not_lt_zero _)
  | succ n ih =>
    intro j B K9 J cells slots i1 ix iP ifr iB iv ic is i9
    have hn6 := hM.1.1
    have hm12 := hM.1.2
    have hS9 : zSh K9 A n7 m7 := hS.on ix (fun i hi => (ifr _ (hS.lt hx0 i hi)).1)
    have hM9 : zSt J A n7 m7 S := hM.on (fun i hi => (ifr _ (hS.lt hx0 i hi)).2)
    refine zr_iload2 X dX12_copy_137 ?_
    refine zr_aload0 X dX12_copy_138 ?_
    refine zr_getI X zf_X12_31 rfl dX12_copy_139 ?_
    refine zr_eq (x2 := (nI m7)) ((hM9.2.2.1 5 (by decide) (by decide)).trans hM9.2.1.2) ?_
    refine zr_nicmp_ge X (j) (m7) (tgt := 227) (by omega) (by omega) dX12_copy_142 (by decide) (fun h1 => ?_) (fun h1 => ?_)
    · skip
      have hj9 : j = m7 := by omega
      subst hj9
      refine zr_forget (lv2 := [some (vr (A (0)) 17), some (vr (x) 17), none]) (fun j9 v9 h9 => by rcases j9 with _ | _ | _ | j9 <;> first | exact h9 | (simp at h9)) ?_
      exact hk B K9 J cells slots ix iP ifr iB iv (by omega) (by omega)
    · skip
      obtain ⟨kA0, hA0⟩ := hS9.2.2.2.2.2 0 (by unfold zvd; omega)
      obtain ⟨kA2, hA2⟩ := hS9.2.2.2.2.2 2 (by unfold zvd; omega)
      obtain ⟨kA4, hA4⟩ := hS9.2.2.2.2.2 (40 + j) (by unfold zvd; omega)
      have hBx : K9.1 x = some 17 := by have := iP.2.1.1; rwa [iB] at this
      obtain ⟨kB2, hB2⟩ := iP.1.2 2 (by unfold zvd; omega)
      obtain ⟨kB3, hB3⟩ := iP.1.2 3 (by unfold zvd; omega)
      have hx2 : x < B 2 := by have := iP.1.1 0 2 (by unfold zvd; omega) (by unfold zvd; omega) (by omega); rwa [iB] at this
      have hx3 : x < B 3 := by have := iP.1.1 0 3 (by unfold zvd; omega) (by unfold zvd; omega) (by omega); rwa [iB] at this
      have hb23 := iP.1.1 2 3 (by unfold zvd; omega) (by unfold zvd; omega) (by omega)
      have hl0 := hS.lt hx0 0 (by unfold zvd; omega)
      have hl2 := hS.lt hx0 2 (by unfold zvd; omega)
      have hl4 := hS.lt hx0 (40 + j) (by unfold zvd; omega)
      refine zr_aload1 X dX12_copy_145 ?_
      refine zr_getD (r := B (2)) X zf_X12_36 rfl (by decide) ((by have := iP.2.1.2.2.1; rwa [iB] at this)) dX12_copy_146 ?_
      refine zr_iload2 X dX12_copy_149 ?_
      refine zr_new X znw_X12_34 ⟨by simp only [zrm_X12_copy, zrm_X9_copy, zrm_X8_init, zrm_X12_init]; omega, by simp only [zrm_X12_copy, zrm_X9_copy, zrm_X8_init, zrm_X12_init]; omega⟩ dX12_copy_150 (fun z2 hf3 hb4 => ?_)
      have := hf3 _ _ hA0
      have hk5 := kup_ex (k := 8) hf3 _ _ hA0
      have := hf3 _ _ hA2
      have hk6 := kup_ex (k := 8) hf3 _ _ hA2
      have := hf3 _ _ hA4
      have hk7 := kup_ex (k := 8) hf3 _ _ hA4
      have := hf3 _ _ hBx
      have hk8 := kup_ex (k := 8) hf3 _ _ hBx
      have := hf3 _ _ hB2
      have hk9 := kup_ex (k := 8) hf3 _ _ hB2
      have := hf3 _ _ hB3
      have hk10 := kup_ex (k := 8) hf3 _ _ hB3
      have hk11 : (kup K9 z2 8).1 z2 = some 8 := kup_new
      refine zr_dupR X dX12_copy_153 ?_
      refine zr_aload0 X dX12_copy_154 ?_
      refine zr_getD (r := A (2)) X zf_X12_36 rfl (by decide) ((kup_old2 (by omega)).trans ((hS9.2.1.2.2.1))) dX12_copy_155 ?_
      refine zr_iload2 X dX12_copy_158 ?_
      refine zr_aaldD (k := 21) (n := j) (r := A (40 + j)) X rfl (show _ < 12 from (by first | decide | omega)) ((kup_old2 (by omega)).trans ((hS9.2.2.2.1 j (by omega)))) dX12_copy_159 ?_
      refine zr_getI X zf_X12_67 rfl dX12_copy_160 ?_
      refine zr_eq (x2 := (J (A (40 + j)) 0)) ((congrFun (zz_ne (by omega)) 0)) ?_
      refine zr_eq (x2 := (sC S j 0)) (hM9.2.2.2.2.2 j (by omega) 0 (by decide)) ?_
      refine zr_initD (rm9 := zrm_X8_init) (As := [vi ((sC S j 0))]) (st := [vr (z2) 8, vi ((nI j)), vr (B (2)) 21]) X zin_X12_70 rfl rfl ⟨by decide, Nat.le_of_ble_eq_true rfl⟩ ⟨by simp only [zrm_X12_copy, zrm_X9_copy, zrm_X8_init, zrm_X12_init]; omega, by simp only [zrm_X12_copy, zrm_X9_copy, zrm_X8_init, zrm_X12_init]; omega⟩ (Nat.le_of_ble_eq_true rfl) dX12_copy_163 ?_
      refine zd_X8_init hk11 (fun J12 hv13 hv14 hv15 hv16 hfr17 => ?_)
      intro hq18
      refine zr_aastD (k := 21) (n := j) X rfl (show _ < 12 from (by first | decide | omega)) dX12_copy_166 ?_
      refine zr_aload1 X dX12_copy_167 ?_
      refine zr_getD (r := B (2)) X zf_X12_36 rfl (by decide) ((kset_ne (by omega)).trans ((kup_old2 (by omega)).trans ((by have := iP.2.1.2.2.1; rwa [iB] at this)))) dX12_copy_168 ?_
      refine zr_iload2 X dX12_copy_171 ?_
      refine zr_aaldD (k := 21) (n := j) (r := z2) X rfl (show _ < 12 from (by first | decide | omega)) (kset_eq) dX12_copy_172 ?_
      refine zr_aload0 X dX12_copy_173 ?_
      refine zr_getD (r := A (2)) X zf_X12_36 rfl (by decide) ((kset_ne (by omega)).trans ((kup_old2 (by omega)).trans ((hS9.2.1.2.2.1)))) dX12_copy_174 ?_
      refine zr_iload2 X dX12_copy_177 ?_
      refine zr_aaldD (k := 21) (n := j) (r := A (40 + j)) X rfl (show _ < 12 from (by first | decide | omega)) ((kset_ne (by omega)).trans ((kup_old2 (by omega)).trans ((hS9.2.2.2.1 j (by omega))))) dX12_copy_178 ?_
      refine zr_getZ X zf_X12_73 rfl rfl (by decide) dX12_copy_179 (fun hz19 => ?_)
      refine zr_eq (x2 := (J (A (40 + j)) 1)) ((congrFun (hfr17 (A (40 + j)) (by omega)) 1).trans ((congrFun (zz_ne (by omega)) 1))) ?_
      have hz19 := hz19.imp (fun h => ((congrFun (hfr17 (A (40 + j)) (by omega)) 1).trans ((congrFun (zz_ne (by omega)) 1))).symm.trans h) (fun h => ((congrFun (hfr17 (A (40 + j)) (by omega)) 1).trans ((congrFun (zz_ne (by omega)) 1))).symm.trans h)
      refine zr_putI X zf_X12_73 rfl (Or.inr (by first | decide | assumption | (simp; done))) dX12_copy_182 ?_
      refine zr_aload1 X dX12_copy_185 ?_
      refine zr_getD (r := B (2)) X zf_X12_36 rfl (by decide) ((kset_ne (by omega)).trans ((kup_old2 (by omega)).trans ((by have := iP.2.1.2.2.1; rwa [iB] at this)))) dX12_copy_186 ?_
      refine zr_iload2 X dX12_copy_189 ?_
      refine zr_aaldD (k := 21) (n := j) (r := z2) X rfl (show _ < 12 from (by first | decide | omega)) (kset_eq) dX12_copy_190 ?_
      refine zr_aload0 X dX12_copy_191 ?_
      refine zr_getD (r := A (2)) X zf_X12_36 rfl (by decide) ((kset_ne (by omega)).trans ((kup_old2 (by omega)).trans ((hS9.2.1.2.2.1)))) dX12_copy_192 ?_
      refine zr_iload2 X dX12_copy_195 ?_
      refine zr_aaldD (k := 21) (n := j) (r := A (40 + j)) X rfl (show _ < 12 from (by first | decide | omega)) ((kset_ne (by omega)).trans ((kup_old2 (by omega)).trans ((hS9.2.2.2.1 j (by omega))))) dX12_copy_196 ?_
      refine zr_getZ X zf_X12_77 rfl rfl (by decide) dX12_copy_197 (fun hz20 => ?_)
      refine zr_eq (x2 := (J (A (40 + j)) 2)) ((zput_ne (by omega)).trans ((congrFun (hfr17 (A (40 + j)) (by omega)) 2).trans ((congrFun (zz_ne (by omega)) 2)))) ?_
      have hz20 := hz20.imp (fun h => ((zput_ne (by omega)).trans ((congrFun (hfr17 (A (40 + j)) (by omega)) 2).trans ((congrFun (zz_ne (by omega)) 2)))).symm.trans h) (fun h => ((zput_ne (by omega)).trans ((congrFun (hfr17 (A (40 + j)) (by omega)) 2).trans ((congrFun (zz_ne (by omega)) 2)))).symm.trans h)
      refine zr_putI X zf_X12_77 rfl (Or.inr (by first | decide | assumption | (simp; done))) dX12_copy_200 ?_
      refine zr_aload1 X dX12_copy_203 ?_
      refine zr_getD (r := B (2)) X zf_X12_36 rfl (by decide) ((kset_ne (by omega)).trans ((kup_old2 (by omega)).trans ((by have := iP.2.1.2.2.1; rwa [iB] at this)))) dX12_copy_204 ?_
      refine zr_iload2 X dX12_copy_207 ?_
      refine zr_aaldD (k := 21) (n := j) (r := z2) X rfl (show _ < 12 from (by first | decide | omega)) (kset_eq) dX12_copy_208 ?_
      refine zr_aload0 X dX12_copy_209 ?_
      refine zr_getD (r := A (2)) X zf_X12_36 rfl (by decide) ((kset_ne (by omega)).trans ((kup_old2 (by omega)).trans ((hS9.2.1.2.2.1)))) dX12_copy_210 ?_
      refine zr_iload2 X dX12_copy_213 ?_
      refine zr_aaldD (k := 21) (n := j) (r := A (40 + j)) X rfl (show _ < 12 from (by first | decide | omega)) ((kset_ne (by omega)).trans ((kup_old2 (by omega)).trans ((hS9.2.2.2.1 j (by omega))))) dX12_copy_214 ?_
      refine zr_getI X zf_X12_80 rfl dX12_copy_215 ?_
      refine zr_eq (x2 := (J (A (40 + j)) 3)) ((zput_ne (by omega)).trans ((zput_ne (by omega)).trans ((congrFun (hfr17 (A (40 + j)) (by omega)) 3).trans ((congrFun (zz_ne (by omega)) 3))))) ?_
      refine zr_eq (x2 := (sC S j 3)) (hM9.2.2.2.2.2 j (by omega) 3 (by decide)) ?_
      refine zr_putI X zf_X12_80 rfl (Or.inl rfl) dX12_copy_218 ?_
      refine zr_iinc2 (v := (nI (j + 1))) X (show nI (j) + Int32.ofInt 1 = nI (j + 1) from nI_1 (j)) (by decide) rfl dX12_copy_221 ?_
      refine zr_goto (tgt := 137) X dX12_copy_224 (by decide) ?_
      have hv4 : ∀ i : Nat, i < 4 → _ = sC S j i := zj4 ((zput_nj (by decide)).trans ((zput_nj (by decide)).trans ((zput_nj (by decide)).trans (hv13)))) (((zput_nj (by decide)).trans ((zput_nj (by decide)).trans (zput_eq))).trans (hM9.2.2.2.2.2 j (by omega) 1 (by decide))) (((zput_nj (by decide)).trans (zput_eq)).trans (hM9.2.2.2.2.2 j (by omega) 2 (by decide))) (zput_eq)
      refine ih (j + 1) (zAc B j z2) _ _ _ _ (by omega) (((kex.rf.tr ix).tr (kup_ex hf3)).tr kset_ex) (zPt.card iP hn6 hf3 (kup_ex hf3) (fun q hq => ⟨funext fun j9 => kup_old2 (by omega), funext fun j9 => (zput_ne (by omega)).trans ((zput_ne (by omega)).trans ((zput_ne (by omega)).trans ((congrFun (hfr17 (q) (by omega)) j9).trans ((congrFun (zz_ne (by omega)) j9)))))⟩) hk11 hv4) (fun q hq => ⟨(funext fun j9 => (kset_ne (by omega)).trans (kup_old2 (by omega))).trans (ifr q hq).1, (funext fun j9 => (zput_ne (by omega)).trans ((zput_ne (by omega)).trans ((zput_ne (by omega)).trans ((congrFun (hfr17 (q) (by omega)) j9).trans ((congrFun (zz_ne (by omega)) j9)))))).trans (ifr q hq).2⟩) ((zAc_n (by omega)).trans iB) ⟨(funext fun j9 => (zput_ne (by omega)).trans ((zput_ne (by omega)).trans ((zput_ne (by omega)).trans ((congrFun (hfr17 (x) (by omega)) j9).trans ((congrFun (zz_ne (by omega)) j9)))))).trans iv.1, fun k => ?_⟩ ?_ ?_ (by omega)
      · rw [zAc_n (by omega)]; exact ((zput_ne (by omega)).trans ((zput_ne (by omega)).trans ((zput_ne (by omega)).trans ((congrFun (hfr17 (B (3)) (by omega)) k).trans ((congrFun (zz_ne (by omega)) k)))))).trans (iv.2 k)
      · simp only [zrm_X8_init]; omega
      · simp only [zrm_X8_init]; omega
def zB4 (z0 z1 z2 z3 : Nat) : Nat → Nat := fun i => if i = 0 then z0 else if i = 1 then z1 else if i = 2 then z2 else z3
theorem zPt.start {K : zKt} {J : zI} {S : zS} {z0 z1 z2 z3 : Nat} (o1 : z0 < z1) (o2 : z1 < z2) (o3 : z2 < z3) (h0 : K.1 z0 = some 17) (h1 : K.1 z1 = some 20) (h2 : K.1 z2 = some 21) (h3 : K.1 z3 = some 22) (r1 : K.2 z0 5 = some z1) (r2 : K.2 z0 7 = some z2) (r3 : K.2 z0 8 = some z3) : zPt K J (zB4 z0 z1 z2 z3) S 0 0 := by
  have hv : ∀ i, zvd 0 0 i → i = 0 ∨ i = 1 ∨ i = 2 ∨ i = 3 := fun i hi => by unfold zvd at hi; omega
  refine ⟨⟨fun i k hi hk hik => ?_, fun i hi => ?_⟩, ⟨h0, r1, r2, r3⟩, fun g hg => absurd hg (Nat.not_lt_zero _), fun g hg => absurd hg (Nat.not_lt_zero _)⟩
  · rcases hv i hi with rfl | rfl | rfl | rfl <;> rcases hv k hk with rfl | rfl | rfl | rfl <;> simp [zB4] at hik ⊢ <;> omega
  · rcases hv i hi with rfl | rfl | rfl | rfl
    · exact ⟨_, h0⟩
    · exact ⟨_, h1⟩
    · exact ⟨_, h2⟩
    · exact ⟨_, h3⟩
theorem zx15 {f : Nat → Int32} {S : zS} (h0 : f 0 = sX S 0) (h1 : f 1 = sX S 1) (h2 : f 2 = sX S 2) (h3 : f 3 = sX S 3) (h4 : f 4 = sX S 4) (h5 : f 6 = sX S 5) (h9 : f 9 = sX S 9) (h10 : f 10 = sX S 10) (h11 : f 11 = sX S 11) (h12 : f 12 = sX S 12) (h13 : f 13 = sX S 13) (h14 : f 14 = sX S 14) : ∀ i : Nat, i < 15 → (i < 6 ∨ 9 ≤ i) → f (zss i) = sX S i := by
  intro i hi h
  have : i = 0 ∨ i = 1 ∨ i = 2 ∨ i = 3 ∨ i = 4 ∨ i = 5 ∨ i = 9 ∨ i = 10 ∨ i = 11 ∨ i = 12 ∨ i = 13 ∨ i = 14 := by omega
  rcases this with rfl | rfl | rfl | rfl | rfl | rfl | rfl | rfl | rfl | rfl | rfl | rfl
  · exact h0
  · exact h1
  · exact h2
  · exact h3
  · exact h4
  · exact h5
  · exact h9
  · exact h10
  · exact h11
  · exact h12
  · exact h13
  · exact h14
theorem zk3 {f g : Nat → Int32} (h0 : f 0 = g 0) (h1 : f 1 = g 1) (h2 : f 2 = g 2) : ∀ j : Nat, j < 3 → f j = g j
  | 0, _ => h0 | 1, _ => h1 | 2, _ => h2
  | n + 3, h => absurd h (by omega)
set_option maxRecDepth 20000 in
theorem zd_X12_copy {l : Launch} {D : va_G} {b0 : Nat} {tA : Nat → ClassId} {sa sv : Nat → Nat} {K : zKt} {I : zI} {Qd : zKt → zI → Option AV → Prop} {A : Nat → Nat} {n7 m7 : Nat} {S : zS}
    (hS : zSh K A n7 m7) (hM : zSt I A n7 m7 S) (hl : ∀ g s, (sL S g s).length ≤ 10) (k1 : ∀ (K' : zKt) (B : Nat → Nat) (J : zI), kfr K (B 0) → kex K K' → zSh K' B n7 m7 → zSt J B n7 m7 S → (∀ i, zvd n7 m7 i → B 0 ≤ B i) → (∀ q, q < B 0 → K'.2 q = K.2 q ∧ J q = I q) → Qd K' J (some (vr (B 0) 17))) :
    zD l D b0 tA sa sv K yX12_copy (.code yX12_copy cX12_copy 3 (some (.object "GateRowLaw$Station"))) zrm_X12_copy [vr (A (0)) 17] I Qd := by
  have hA0 := hS.2.1.1
  have hn6 := hM.1.1
  have hm12 := hM.1.2
  refine zD_of (by decide +kernel) (Nat.le_of_ble_eq_true rfl) ?_
  intro p e s m args below meth c X hnt
  have X : zX p l e zrm_X12_copy s m args below meth c RX12 cX12_copy 3 (some (.object "GateRowLaw$Station")) D b0 tA sa sv := X
  refine zr_lv (lv2 := [some (vr (A (0)) 17), none, none]) rfl ?_
  refine zr_new X znw_X12_8 ⟨by decide, by decide⟩ dX12_copy_0 (fun z1 hf2 hb3 => ?_)
  have := hf2 _ _ hA0
  have hk4 := kup_ex (k := 17) hf2 _ _ hA0
  have hk5 : (kup K z1 17).1 z1 = some 17 := kup_new
  refine zr_dupR X dX12_copy_3 ?_
  refine zr_initD (rm9 := zrm_X12_init) (As := []) (st := [vr (z1) 17]) X zin_X12_62 rfl rfl ⟨by decide, Nat.le_of_ble_eq_true rfl⟩ ⟨by decide, by decide⟩ (Nat.le_of_ble_eq_true rfl) dX12_copy_4 ?_
  refine zd_X12_init hk5 (fun K6 z7 z8 z9 J10 hf11 hx12 hl13 hl14 hkn15 hr16 hv17 hz18 hfr19 => ?_)
  intro hq20
  have hk21 := hx12 _ _ hk4
  have := hf11 _ _ hk4
  have hk22 := hx12 _ _ hk5
  have := hf11 _ _ hk5
  refine zr_astore1 X (by decide) rfl dX12_copy_7 ?_
  refine zr_aload1 X dX12_copy_8 ?_
  refine zr_aload0 X dX12_copy_9 ?_
  refine zr_getI X zf_X12_7 rfl dX12_copy_10 ?_
  refine zr_eq (x2 := (I (A (0)) 0)) ((congrFun (hfr19 (A (0)) (by omega) (by omega)).2 0).trans ((congrFun (zz_ne (by omega)) 0))) ?_
  refine zr_eq (x2 := (sX S 0)) (hM.2.2.1 0 (by decide) (by decide)) ?_
  refine zr_putI X zf_X12_7 rfl (Or.inl rfl) dX12_copy_13 ?_
  refine zr_aload1 X dX12_copy_16 ?_
  refine zr_aload0 X dX12_copy_17 ?_
  refine zr_getI X zf_X12_13 rfl dX12_copy_18 ?_
  refine zr_eq (x2 := (I (A (0)) 1)) ((zput_ne (by omega)).trans ((congrFun (hfr19 (A (0)) (by omega) (by omega)).2 1).trans ((congrFun (zz_ne (by omega)) 1)))) ?_
  refine zr_eq (x2 := (sX S 1)) (hM.2.2.1 1 (by decide) (by decide)) ?_
  refine zr_putI X zf_X12_13 rfl (Or.inl rfl) dX12_copy_21 ?_
  refine zr_aload1 X dX12_copy_24 ?_
  refine zr_aload0 X dX12_copy_25 ?_
  refine zr_getI X zf_X12_16 rfl dX12_copy_26 ?_
  refine zr_eq (x2 := (I (A (0)) 2)) ((zput_ne (by omega)).trans ((zput_ne (by omega)).trans ((congrFun (hfr19 (A (0)) (by omega) (by omega)).2 2).trans ((congrFun (zz_ne (by omega)) 2))))) ?_
  refine zr_eq (x2 := (sX S 2)) (hM.2.2.1 2 (by decide) (by decide)) ?_
  refine zr_putI X zf_X12_16 rfl (Or.inl rfl) dX12_copy_29 ?_
  refine zr_aload1 X dX12_copy_32 ?_
  refine zr_aload0 X dX12_copy_33 ?_
  refine zr_getI X zf_X12_19 rfl dX12_copy_34 ?_
  refine zr_eq (x2 := (I (A (0)) 3)) ((zput_ne (by omega)).trans ((zput_ne (by omega)).trans ((zput_ne (by omega)).trans ((congrFun (hfr19 (A (0)) (by omega) (by omega)).2 3).trans ((congrFun (zz_ne (by omega)) 3)))))) ?_
  refine zr_eq (x2 := (sX S 3)) (hM.2.2.1 3 (by decide) (by decide)) ?_
  refine zr_putI X zf_X12_19 rfl (Or.inl rfl) dX12_copy_37 ?_
  refine zr_aload1 X dX12_copy_40 ?_
  refine zr_aload0 X dX12_copy_41 ?_
  refine zr_getI X zf_X12_22 rfl dX12_copy_42 ?_
  refine zr_eq (x2 := (I (A (0)) 4)) ((zput_ne (by omega)).trans ((zput_ne (by omega)).trans ((zput_ne (by omega)).trans ((zput_ne (by omega)).trans ((congrFun (hfr19 (A (0)) (by omega) (by omega)).2 4).trans ((congrFun (zz_ne (by omega)) 4))))))) ?_
  refine zr_eq (x2 := (nI n7)) ((hM.2.2.1 4 (by decide) (by decide)).trans hM.2.1.1) ?_
  refine zr_putI X zf_X12_22 rfl (Or.inl rfl) dX12_copy_45 ?_
  refine zr_aload1 X dX12_copy_48 ?_
  refine zr_aload0 X dX12_copy_49 ?_
  refine zr_getI X zf_X12_31 rfl dX12_copy_50 ?_
  refine zr_eq (x2 := (I (A (0)) 6)) ((zput_ne (by omega)).trans ((zput_ne (by omega)).trans ((zput_ne (by omega)).trans ((zput_ne (by omega)).trans ((zput_ne (by omega)).trans ((congrFun (hfr19 (A (0)) (by omega) (by omega)).2 6).trans ((congrFun (zz_ne (by omega)) 6)))))))) ?_
  refine zr_eq (x2 := (nI m7)) ((hM.2.2.1 5 (by decide) (by decide)).trans hM.2.1.2) ?_
  refine zr_putI X zf_X12_31 rfl (Or.inl rfl) dX12_copy_53 ?_
  refine zr_aload1 X dX12_copy_56 ?_
  refine zr_aload0 X dX12_copy_57 ?_
  refine zr_getI X zf_X12_44 rfl dX12_copy_58 ?_
  refine zr_eq (x2 := (I (A (0)) 9)) ((zput_ne (by omega)).trans ((zput_ne (by omega)).trans ((zput_ne (by omega)).trans ((zput_ne (by omega)).trans ((zput_ne (by omega)).trans ((zput_ne (by omega)).trans ((congrFun (hfr19 (A (0)) (by omega) (by omega)).2 9).trans ((congrFun (zz_ne (by omega)) 9))))))))) ?_
  refine zr_eq (x2 := (sX S 9)) (hM.2.2.1 9 (by decide) (by decide)) ?_
  refine zr_putI X zf_X12_44 rfl (Or.inl rfl) dX12_copy_61 ?_
  refine zr_aload1 X dX12_copy_64 ?_
  refine zr_aload0 X dX12_copy_65 ?_
  refine zr_getI X zf_X12_47 rfl dX12_copy_66 ?_
  refine zr_eq (x2 := (I (A (0)) 10)) ((zput_ne (by omega)).trans ((zput_ne (by omega)).trans ((zput_ne (by omega)).trans ((zput_ne (by omega)).trans ((zput_ne (by omega)).trans ((zput_ne (by omega)).trans ((zput_ne (by omega)).trans ((congrFun (hfr19 (A (0)) (by omega) (by omega)).2 10).trans ((congrFun (zz_ne (by omega)) 10)))))))))) ?_
  refine zr_eq (x2 := (sX S 10)) (hM.2.2.1 10 (by decide) (by decide)) ?_
  refine zr_putI X zf_X12_47 rfl (Or.inl rfl) dX12_copy_69 ?_
  refine zr_aload1 X dX12_copy_72 ?_
  refine zr_aload0 X dX12_copy_73 ?_
  refine zr_getI X zf_X12_50 rfl dX12_copy_74 ?_
  refine zr_eq (x2 := (I (A (0)) 11)) ((zput_ne (by omega)).trans ((zput_ne (by omega)).trans ((zput_ne (by omega)).trans ((zput_ne (by omega)).trans ((zput_ne (by omega)).trans ((zput_ne (by omega)).trans ((zput_ne (by omega)).trans ((zput_ne (by omega)).trans ((congrFun (hfr19 (A (0)) (by omega) (by omega)).2 11).trans ((congrFun (zz_ne (by omega)) 11))))))))))) ?_
  refine zr_eq (x2 := (sX S 11)) (hM.2.2.1 11 (by decide) (by decide)) ?_
  refine zr_putI X zf_X12_50 rfl (Or.inl rfl) dX12_copy_77 ?_
  refine zr_aload1 X dX12_copy_80 ?_
  refine zr_aload0 X dX12_copy_81 ?_
  refine zr_getI X zf_X12_53 rfl dX12_copy_82 ?_
  refine zr_eq (x2 := (I (A (0)) 12)) ((zput_ne (by omega)).trans ((zput_ne (by omega)).trans ((zput_ne (by omega)).trans ((zput_ne (by omega)).trans ((zput_ne (by omega)).trans ((zput_ne (by omega)).trans ((zput_ne (by omega)).trans ((zput_ne (by omega)).trans ((zput_ne (by omega)).trans ((congrFun (hfr19 (A (0)) (by omega) (by omega)).2 12).trans ((congrFun (zz_ne (by omega)) 12)))))))))))) ?_
  refine zr_eq (x2 := (sX S 12)) (hM.2.2.1 12 (by decide) (by decide)) ?_
  refine zr_putI X zf_X12_53 rfl (Or.inl rfl) dX12_copy_85 ?_
  refine zr_aload1 X dX12_copy_88 ?_
  refine zr_aload0 X dX12_copy_89 ?_
  refine zr_getI X zf_X12_56 rfl dX12_copy_90 ?_
  refine zr_eq (x2 := (I (A (0)) 13)) ((zput_ne (by omega)).trans ((zput_ne (by omega)).trans ((zput_ne (by omega)).trans ((zput_ne (by omega)).trans ((zput_ne (by omega)).trans ((zput_ne (by omega)).trans ((zput_ne (by omega)).trans ((zput_ne (by omega)).trans ((zput_ne (by omega)).trans ((zput_ne (by omega)).trans ((congrFun (hfr19 (A (0)) (by omega) (by omega)).2 13).trans ((congrFun (zz_ne (by omega)) 13))))))))))))) ?_
  refine zr_eq (x2 := (sX S 13)) (hM.2.2.1 13 (by decide) (by decide)) ?_
  refine zr_putI X zf_X12_56 rfl (Or.inl rfl) dX12_copy_93 ?_
  refine zr_aload1 X dX12_copy_96 ?_
  refine zr_aload0 X dX12_copy_97 ?_
  refine zr_getI X zf_X12_59 rfl dX12_copy_98 ?_
  refine zr_eq (x2 := (I (A (0)) 14)) ((zput_ne (by omega)).trans ((zput_ne (by omega)).trans ((zput_ne (by omega)).trans ((zput_ne (by omega)).trans ((zput_ne (by omega)).trans ((zput_ne (by omega)).trans ((zput_ne (by omega)).trans ((zput_ne (by omega)).trans ((zput_ne (by omega)).trans ((zput_ne (by omega)).trans ((zput_ne (by omega)).trans ((congrFun (hfr19 (A (0)) (by omega) (by omega)).2 14).trans ((congrFun (zz_ne (by omega)) 14)))))))))))))) ?_
  refine zr_eq (x2 := (sX S 14)) (hM.2.2.1 14 (by decide) (by decide)) ?_
  refine zr_putI X zf_X12_59 rfl (Or.inl rfl) dX12_copy_101 ?_
  refine zr_iconst (v := (0 : Int32)) X dX12_copy_104 (by decide) ?_
  refine zr_istore2 X (by decide) rfl dX12_copy_105 ?_
  have hIv : ∀ i : Nat, i < 15 → (i < 6 ∨ 9 ≤ i) → (zput (zput (zput (zput (zput (zput (zput (zput (zput (zput (zput (zput J10 (z1) 0 ((sX S 0))) (z1) 1 ((sX S 1))) (z1) 2 ((sX S 2))) (z1) 3 ((sX S 3))) (z1) 4 ((nI n7))) (z1) 6 ((nI m7))) (z1) 9 ((sX S 9))) (z1) 10 ((sX S 10))) (z1) 11 ((sX S 11))) (z1) 12 ((sX S 12))) (z1) 13 ((sX S 13))) (z1) 14 ((sX S 14))) (z1) (zss i) = sX S i := zx15 (f := (zput (zput (zput (zput (zput (zput (zput (zput (zput (zput (zput (zput J10 (z1) 0 ((sX S 0))) (z1) 1 ((sX S 1))) (z1) 2 ((sX S 2))) (z1) 3 ((sX S 3))) (z1) 4 ((nI n7))) (z1) 6 ((nI m7))) (z1) 9 ((sX S 9))) (z1) 10 ((sX S 10))) (z1) 11 ((sX S 11))) (z1) 12 ((sX S 12))) (z1) 13 ((sX S 13))) (z1) 14 ((sX S 14))) (z1)) ((zput_nj (by decide)).trans ((zput_nj (by decide)).trans ((zput_nj (by decide)).trans ((zput_nj (by decide)).trans ((zput_nj (by decide)).trans ((zput_nj (by decide)).trans ((zput_nj (by decide)).trans ((zput_nj (by decide)).trans ((zput_nj (by decide)).trans ((zput_nj (by decide)).trans ((zput_nj (by decide)).trans (zput_eq)))))))))))) ((zput_nj (by decide)).trans ((zput_nj (by decide)).trans ((zput_nj (by decide)).trans ((zput_nj (by decide)).trans ((zput_nj (by decide)).trans ((zput_nj (by decide)).trans ((zput_nj (by decide)).trans ((zput_nj (by decide)).trans ((zput_nj (by decide)).trans ((zput_nj (by decide)).trans (zput_eq))))))))))) ((zput_nj (by decide)).trans ((zput_nj (by decide)).trans ((zput_nj (by decide)).trans ((zput_nj (by decide)).trans ((zput_nj (by decide)).trans ((zput_nj (by decide)).trans ((zput_nj (by decide)).trans ((zput_nj (by decide)).trans ((zput_nj (by decide)).trans (zput_eq)))))))))) ((zput_nj (by decide)).trans ((zput_nj (by decide)).trans ((zput_nj (by decide)).trans ((zput_nj (by decide)).trans ((zput_nj (by decide)).trans ((zput_nj (by decide)).trans ((zput_nj (by decide)).trans ((zput_nj (by decide)).trans (zput_eq))))))))) (((zput_nj (by decide)).trans ((zput_nj (by decide)).trans ((zput_nj (by decide)).trans ((zput_nj (by decide)).trans ((zput_nj (by decide)).trans ((zput_nj (by decide)).trans ((zput_nj (by decide)).trans (zput_eq)))))))).trans hM.2.1.1.symm) (((zput_nj (by decide)).trans ((zput_nj (by decide)).trans ((zput_nj (by decide)).trans ((zput_nj (by decide)).trans ((zput_nj (by decide)).trans ((zput_nj (by decide)).trans (zput_eq))))))).trans hM.2.1.2.symm) ((zput_nj (by decide)).trans ((zput_nj (by decide)).trans ((zput_nj (by decide)).trans ((zput_nj (by decide)).trans ((zput_nj (by decide)).trans (zput_eq)))))) ((zput_nj (by decide)).trans ((zput_nj (by decide)).trans ((zput_nj (by decide)).trans ((zput_nj (by decide)).trans (zput_eq))))) ((zput_nj (by decide)).trans ((zput_nj (by decide)).trans ((zput_nj (by decide)).trans (zput_eq)))) ((zput_nj (by decide)).trans ((zput_nj (by decide)).trans (zput_eq))) ((zput_nj (by decide)).trans (zput_eq)) (zput_eq)
  refine zlG_X12_copy (A := A) (x := z1) (Iv := (zput (zput (zput (zput (zput (zput (zput (zput (zput (zput (zput (zput J10 (z1) 0 ((sX S 0))) (z1) 1 ((sX S 1))) (z1) 2 ((sX S 2))) (z1) 3 ((sX S 3))) (z1) 4 ((nI n7))) (z1) 6 ((nI m7))) (z1) 9 ((sX S 9))) (z1) 10 ((sX S 10))) (z1) 11 ((sX S 11))) (z1) 12 ((sX S 12))) (z1) 13 ((sX S 13))) (z1) 14 ((sX S 14))) z1) (S := S) X hnt hS hM hl hf2 (fun B K9 J cells slots ix iP ifr iB iv ic is => ?_) (n7 + 1) 0 (zB4 z1 z7 z8 z9) _ _ _ _ (Nat.zero_le _) ((kex.rf.tr (kup_ex hf2)).tr hx12) (zPt.start (by omega) (by omega) (by omega) hk22 hkn15.1 hkn15.2.1 hkn15.2.2 (hr16.1) (hr16.2.1) (hr16.2.2)) (fun q hq => ⟨funext fun j9 => (congrFun (hfr19 (q) (by omega) (by omega)).1 j9).trans ((kup_old2 (by omega)).trans ((rfl))), funext fun j9 => (zput_ne (by omega)).trans ((zput_ne (by omega)).trans ((zput_ne (by omega)).trans ((zput_ne (by omega)).trans ((zput_ne (by omega)).trans ((zput_ne (by omega)).trans ((zput_ne (by omega)).trans ((zput_ne (by omega)).trans ((zput_ne (by omega)).trans ((zput_ne (by omega)).trans ((zput_ne (by omega)).trans ((zput_ne (by omega)).trans ((congrFun (hfr19 (q) (by omega) (by omega)).2 j9).trans ((congrFun (zz_ne (by omega)) j9))))))))))))))⟩) rfl ⟨rfl, fun k9 => (show (zput (zput (zput (zput (zput (zput (zput (zput (zput (zput (zput (zput J10 (z1) 0 ((sX S 0))) (z1) 1 ((sX S 1))) (z1) 2 ((sX S 2))) (z1) 3 ((sX S 3))) (z1) 4 ((nI n7))) (z1) 6 ((nI m7))) (z1) 9 ((sX S 9))) (z1) 10 ((sX S 10))) (z1) 11 ((sX S 11))) (z1) 12 ((sX S 12))) (z1) 13 ((sX S 13))) (z1) 14 ((sX S 14))) (z9) k9 = 0 from (zput_ne (by omega)).trans ((zput_ne (by omega)).trans ((zput_ne (by omega)).trans ((zput_ne (by omega)).trans ((zput_ne (by omega)).trans ((zput_ne (by omega)).trans ((zput_ne (by omega)).trans ((zput_ne (by omega)).trans ((zput_ne (by omega)).trans ((zput_ne (by omega)).trans ((zput_ne (by omega)).trans ((zput_ne (by omega)).trans (hz18 k9)))))))))))))⟩ (by decide) (by decide) (by omega)
  have hS9 : zSh K9 A n7 m7 := hS.on ix (fun i hi => (ifr _ (hS.lt hf2 i hi)).1)
  have hM9 : zSt J A n7 m7 S := hM.on (fun i hi => (ifr _ (hS.lt hf2 i hi)).2)
  refine zr_iconst (v := (0 : Int32)) X dX12_copy_135 (by decide) ?_
  refine zr_istore2 X (by decide) rfl dX12_copy_136 ?_
  clear hS9 hM9
  refine zlC_X12_copy (A := A) (x := z1) (Iv := _) (S := S) X hnt hS hM hl hf2 (fun B K9 J cells slots ix iP ifr iB iv ic is => ?_) (m7 + 1) 0 B K9 _ cells slots (Nat.zero_le _) ix iP ifr iB iv (by omega) (by omega) (by omega)
  have hS9 : zSh K9 A n7 m7 := hS.on ix (fun i hi => (ifr _ (hS.lt hf2 i hi)).1)
  have hM9 : zSt J A n7 m7 S := hM.on (fun i hi => (ifr _ (hS.lt hf2 i hi)).2)
  have hx3 : z1 < B 3 := by have := iP.1.1 0 3 (by unfold zvd; omega) (by unfold zvd; omega) (by omega); rwa [iB] at this
  have hl3 := hS.lt hf2 3 (by unfold zvd; omega)
  refine zr_iconst (v := (0 : Int32)) X dX12_copy_227 (by decide) ?_
  refine zr_istore2 X (by decide) rfl dX12_copy_228 ?_
  refine zr_iload2 X dX12_copy_229 ?_
  refine zr_iconst (v := (3 : Int32)) X dX12_copy_230 (by decide) ?_
  refine zr_icmp_ge (tgt := 252) X dX12_copy_231 (by decide) (fun h => absurd h (by decide)) (fun _ => ?_)
  refine zr_aload1 X dX12_copy_234 ?_
  refine zr_getD (r := B (3)) X zf_X12_40 rfl (by decide) ((by have := iP.2.1.2.2.2; rwa [iB] at this)) dX12_copy_235 ?_
  refine zr_iload2 X dX12_copy_238 ?_
  refine zr_aload0 X dX12_copy_239 ?_
  refine zr_getD (r := A (3)) X zf_X12_40 rfl (by decide) ((hS9.2.1.2.2.2)) dX12_copy_240 ?_
  refine zr_iload2 X dX12_copy_243 ?_
  refine zr_baldZ (n := 0) X (by first | decide | omega) dX12_copy_244 (fun hz23 => ?_)
  refine zr_bastZ (n := 0) X (by first | decide | omega) (by first | decide | assumption | (simp; done)) dX12_copy_245 ?_
  refine zr_iinc2 (v := (1 : Int32)) X (by decide) (by decide) rfl dX12_copy_246 ?_
  refine zr_goto (tgt := 229) X dX12_copy_249 (by decide) ?_
  refine zr_iload2 X dX12_copy_229 ?_
  refine zr_iconst (v := (3 : Int32)) X dX12_copy_230 (by decide) ?_
  refine zr_icmp_ge (tgt := 252) X dX12_copy_231 (by decide) (fun h => absurd h (by decide)) (fun _ => ?_)
  refine zr_aload1 X dX12_copy_234 ?_
  refine zr_getD (r := B (3)) X zf_X12_40 rfl (by decide) ((by have := iP.2.1.2.2.2; rwa [iB] at this)) dX12_copy_235 ?_
  refine zr_iload2 X dX12_copy_238 ?_
  refine zr_aload0 X dX12_copy_239 ?_
  refine zr_getD (r := A (3)) X zf_X12_40 rfl (by decide) ((hS9.2.1.2.2.2)) dX12_copy_240 ?_
  refine zr_iload2 X dX12_copy_243 ?_
  refine zr_baldZ (n := 1) X (by first | decide | omega) dX12_copy_244 (fun hz24 => ?_)
  refine zr_eq (x2 := (J (A (3)) 1)) ((zput_ne (by omega))) ?_
  have hz24 := hz24.imp (fun h => ((zput_ne (by omega))).symm.trans h) (fun h => ((zput_ne (by omega))).symm.trans h)
  refine zr_bastZ (n := 1) X (by first | decide | omega) (by first | decide | assumption | (simp; done)) dX12_copy_245 ?_
  refine zr_iinc2 (v := (2 : Int32)) X (by decide) (by decide) rfl dX12_copy_246 ?_
  refine zr_goto (tgt := 229) X dX12_copy_249 (by decide) ?_
  refine zr_iload2 X dX12_copy_229 ?_
  refine zr_iconst (v := (3 : Int32)) X dX12_copy_230 (by decide) ?_
  refine zr_icmp_ge (tgt := 252) X dX12_copy_231 (by decide) (fun h => absurd h (by decide)) (fun _ => ?_)
  refine zr_aload1 X dX12_copy_234 ?_
  refine zr_getD (r := B (3)) X zf_X12_40 rfl (by decide) ((by have := iP.2.1.2.2.2; rwa [iB] at this)) dX12_copy_235 ?_
  refine zr_iload2 X dX12_copy_238 ?_
  refine zr_aload0 X dX12_copy_239 ?_
  refine zr_getD (r := A (3)) X zf_X12_40 rfl (by decide) ((hS9.2.1.2.2.2)) dX12_copy_240 ?_
  refine zr_iload2 X dX12_copy_243 ?_
  refine zr_baldZ (n := 2) X (by first | decide | omega) dX12_copy_244 (fun hz25 => ?_)
  refine zr_eq (x2 := (J (A (3)) 2)) ((zput_ne (by omega)).trans ((zput_ne (by omega)))) ?_
  have hz25 := hz25.imp (fun h => ((zput_ne (by omega)).trans ((zput_ne (by omega)))).symm.trans h) (fun h => ((zput_ne (by omega)).trans ((zput_ne (by omega)))).symm.trans h)
  refine zr_bastZ (n := 2) X (by first | decide | omega) (by first | decide | assumption | (simp; done)) dX12_copy_245 ?_
  refine zr_iinc2 (v := (3 : Int32)) X (by decide) (by decide) rfl dX12_copy_246 ?_
  refine zr_goto (tgt := 229) X dX12_copy_249 (by decide) ?_
  refine zr_iload2 X dX12_copy_229 ?_
  refine zr_iconst (v := (3 : Int32)) X dX12_copy_230 (by decide) ?_
  refine zr_icmp_ge (tgt := 252) X dX12_copy_231 (by decide) (fun _ => ?_) (fun h => absurd h (by decide))
  refine zr_aload1 X dX12_copy_252 ?_
  refine zr_aretD X (kex.rf.tr ix) (by exact ic) (by exact is) dX12_copy_253 ?_
  have hK9 : ∀ k : Nat, k < 3 → (zput (zput (zput J (B (3)) 0 ((J (A (3)) 0))) (B (3)) 1 ((J (A (3)) 1))) (B (3)) 2 ((J (A (3)) 2))) (B 3) k = sX S (6 + k) := zk3 (f := (zput (zput (zput J (B (3)) 0 ((J (A (3)) 0))) (B (3)) 1 ((J (A (3)) 1))) (B (3)) 2 ((J (A (3)) 2))) (B 3)) (g := fun k => sX S (6 + k)) (((zput_nj (by decide)).trans ((zput_nj (by decide)).trans (zput_eq))).trans (hM9.2.2.2.1 0 (by decide))) (((zput_nj (by decide)).trans (zput_eq)).trans (hM9.2.2.2.1 1 (by decide))) ((zput_eq).trans (hM9.2.2.2.1 2 (by decide)))
  have e3 : ∀ q : Nat, q ≠ B 3 → ((zput (zput (zput J (B (3)) 0 ((J (A (3)) 0))) (B (3)) 1 ((J (A (3)) 1))) (B (3)) 2 ((J (A (3)) 2)))) q = J q := fun q hq => (zput_nq hq).trans ((zput_nq hq).trans ((zput_nq hq).trans rfl))
  obtain ⟨A2, e2, s2, m2⟩ := zPt.done (J := (zput (zput (zput J (B (3)) 0 ((J (A (3)) 0))) (B (3)) 1 ((J (A (3)) 1))) (B (3)) 2 ((J (A (3)) 2)))) (iP.at3 e3) hn6 hm12 hM.2.1.1 hM.2.1.2 (fun i h1 h2 => ((congrFun ((e3 _ (by omega)).trans ((congrArg J iB).trans iv.1)) (zss i)).trans (hIv i h1 h2))) hK9
  have v0 : zvd n7 m7 0 := by unfold zvd; omega
  have hz0 : A2 0 = z1 := (e2 0 v0).trans iB
  have h9 := k1 K9 A2 ((zput (zput (zput J (B (3)) 0 ((J (A (3)) 0))) (B (3)) 1 ((J (A (3)) 1))) (B (3)) 2 ((J (A (3)) 2)))) (by rw [hz0]; exact hf2) ix s2 m2 (fun i hi => ?_) (by rw [hz0]; exact fun q hq => ⟨(ifr q hq).1, (e3 q (by omega)).trans (ifr q hq).2⟩)
  · rw [hz0] at h9; exact h9
  · rw [e2 i hi, e2 0 v0]; rcases Nat.eq_zero_or_pos i with rfl | q
    · exact Nat.le_refl _
    · exact Nat.le_of_lt (iP.1.1 0 i v0 hi q)
