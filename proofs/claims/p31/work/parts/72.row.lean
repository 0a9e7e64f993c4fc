/-! ===== the law's random row ===== -/
theorem zPt.k4 {K : zKt} {J J' : zI} {A : Nat → Nat} {S : zS} {j c : Nat} (h : zPt K J A S j c) (e : ∀ i : Nat, zvd j c i → 4 ≤ i → J' (A i) = J (A i)) : zPt K J' A S j c := by
  obtain ⟨⟨h1, h2⟩, h3, h7, h8⟩ := h
  refine ⟨⟨h1, h2⟩, h3, fun g hg => ?_, fun k hk => ?_⟩
  · obtain ⟨r, v, w0, w1⟩ := h7 g hg
    have g4 := e (4 + 5 * g) (by unfold zvd; omega) (by omega)
    have g5 := e (5 + 5 * g) (by unfold zvd; omega) (by omega)
    have g6 := e (6 + 5 * g) (by unfold zvd; omega) (by omega)
    have g7 := e (7 + 5 * g) (by unfold zvd; omega) (by omega)
    have g8 := e (8 + 5 * g) (by unfold zvd; omega) (by omega)
    exact ⟨r, fun i hi => by rw [g4]; exact v i hi, w0.kept g5 g6, w1.kept g7 g8⟩
  · obtain ⟨r1, v⟩ := h8 k hk
    have g4 := e (40 + k) (by unfold zvd; omega) (by omega)
    exact ⟨r1, fun i hi => by rw [g4]; exact v i hi⟩
theorem zT0_v {a b : Int32} {i : Nat} : sX (tX (tX zBlank 0 a) 1 b) i = if i = 1 then b else if i = 0 then a else if i = 0 then 3 else if i = 1 then 2 else 0 := rfl
set_option maxRecDepth 20000 in
theorem zd_L_randomRow {l : Launch} {D : va_G} {b0 : Nat} {tA : Nat → ClassId} {sa sv : Nat → Nat} {K : zKt} {I : zI} {Qd : zKt → zI → Option AV → Prop} {x w r : Nat} {er : Int32} {S : zS} {U : List zS}
    (hT : zTx I x w er S U []) (hE : x + 501 ≤ w ∧ x + 501 ≤ r ∧ w ≠ r) (hkw : K.1 w = some 19) (hkr : K.1 r = some 16) (k1 : ∀ (K' : zKt) (A : Nat → Nat) (n m : Nat) (T : zS) (J : zI) (t : Nat → Nat), kfr K (A 0) → kex K K' → zSh K' A n m → zSt J A n m T → zCl J J x t 0 (-1) T (qPush S U) → zGp T → 0 < n → 0 < m → (∀ i, zvd n m i → A 0 ≤ A i) → (∀ q, q < A 0 → K'.2 q = K.2 q ∧ ((q < x ∨ x + 501 ≤ q) → q ≠ w → q ≠ r → J q = I q)) → Qd K' J (some (vr (A 0) 17))) :
    zD l D b0 tA sa sv K yL_randomRow (.code yL_randomRow cL_randomRow 10 (some (.object "GateRowLaw$Station"))) zrm_L_randomRow [vr (x) 7, vr (w) 19, vr (r) 16] I Qd := by
  refine zD_of (by decide +kernel) (Nat.le_of_ble_eq_true rfl) ?_
  intro p e s m args below meth c X hnt
  have X : zX p l e zrm_L_randomRow s m args below meth c RL cL_randomRow 10 (some (.object "GateRowLaw$Station")) D b0 tA sa sv := X
  refine zr_lv (lv2 := [some (vr (x) 7), some (vr (w) 19), some (vr (r) 16), none, none, none, none, none, none, none]) rfl ?_
  refine zr_new X znw_L_115 ⟨by decide, by decide⟩ dL_randomRow_0 (fun z1 hf2 hb3 => ?_)
  have := hf2 _ _ hkw
  have hk4 := kup_ex (k := 17) hf2 _ _ hkw
  have := hf2 _ _ hkr
  have hk5 := kup_ex (k := 17) hf2 _ _ hkr
  have hk6 : (kup K z1 17).1 z1 = some 17 := kup_new
  refine zr_dupR X dL_randomRow_3 ?_
  refine zr_initD (rm9 := zrm_X12_init) (As := []) (st := [vr (z1) 17]) X zin_L_117 rfl rfl ⟨by decide, Nat.le_of_ble_eq_true rfl⟩ ⟨by decide, by decide⟩ (Nat.le_of_ble_eq_true rfl) dL_randomRow_4 ?_
  refine zd_X12_init hk6 (fun K7 z8 z9 z10 J11 hf12 hx13 hl14 hl15 hkn16 hr17 hv18 hz19 hfr20 => ?_)
  intro hq21
  have hk22 := hx13 _ _ hk4
  have := hf12 _ _ hk4
  have hk23 := hx13 _ _ hk5
  have := hf12 _ _ hk5
  have hk24 := hx13 _ _ hk6
  have := hf12 _ _ hk6
  refine zr_astore3 X (by decide) rfl dL_randomRow_7 ?_
  refine zr_aload3 X dL_randomRow_8 ?_
  refine zr_iconst (v := (1 : Int32)) X dL_randomRow_9 (by decide) ?_
  refine zr_aload2 X dL_randomRow_10 ?_
  refine zr_iconst (v := (5 : Int32)) X dL_randomRow_11 (by decide) ?_
  refine zr_callVQ (rm9 := zrm_X11_below) (As := [vi ((5 : Int32))]) (st := [vi ((1 : Int32)), vr (z1) 17]) X zm_L_118 rfl rfl ⟨by decide, Nat.le_of_ble_eq_true rfl⟩ ⟨by decide, by decide⟩ (Nat.le_of_ble_eq_true rfl) dL_randomRow_12 ?_
  refine zp_X11_below (b := 5) (by omega) (by omega) (fun vv25 v26 hv27 => ?_)
  refine zr_iadd X dL_randomRow_15 ?_
  refine zr_eq (x2 := (nI (1 + v26))) (nI_add (1) (v26)) ?_
  refine zr_putI X zf_L_123 rfl (Or.inl rfl) dL_randomRow_16 ?_
  refine zr_aload3 X dL_randomRow_19 ?_
  refine zr_iconst (v := (1 : Int32)) X dL_randomRow_20 (by decide) ?_
  refine zr_aload2 X dL_randomRow_21 ?_
  refine zr_iconst (v := (4 : Int32)) X dL_randomRow_22 (by decide) ?_
  refine zr_callVQ (rm9 := zrm_X11_below) (As := [vi ((4 : Int32))]) (st := [vi ((1 : Int32)), vr (z1) 17]) X zm_L_118 rfl rfl ⟨by decide, Nat.le_of_ble_eq_true rfl⟩ ⟨by decide, by decide⟩ (Nat.le_of_ble_eq_true rfl) dL_randomRow_23 ?_
  refine zp_X11_below (b := 4) (by omega) (by omega) (fun vv28 v29 hv30 => ?_)
  refine zr_iadd X dL_randomRow_26 ?_
  refine zr_eq (x2 := (nI (1 + v29))) (nI_add (1) (v29)) ?_
  refine zr_putI X zf_L_127 rfl (Or.inl rfl) dL_randomRow_27 ?_
  refine zr_aload0 X dL_randomRow_30 ?_
  refine zr_aload1 X dL_randomRow_31 ?_
  refine zr_ldcS X 10 rfl (by decide) dL_randomRow_32 ?_
  refine zr_callSQ (rm9 := zrm_L_write) (As := [vr (x) 7, vr (w) 19, vr (sa 10) (24 + 10)]) (st := []) X zm_L_132 rfl rfl ⟨by decide, Nat.le_of_ble_eq_true rfl⟩ ⟨by decide, by decide⟩ (Nat.le_of_ble_eq_true rfl) dL_randomRow_34 ?_
  refine zp_L_write (L := []) (i := 10) (zTx.on hT (fun q q1 q2 => funext fun j9 => (zput_ne (by omega)).trans ((zput_ne (by omega)).trans ((zput_ne (by omega)).trans ((zput_ne (by omega)).trans ((congrFun (hfr20 (q) (by omega) (by omega)).2 j9).trans ((congrFun (zz_ne (by omega)) j9).trans ((Eq.refl (I (q) j9))))))))) (funext fun j9 => (zput_ne (by omega)).trans ((zput_ne (by omega)).trans ((zput_ne (by omega)).trans ((zput_ne (by omega)).trans ((congrFun (hfr20 (w) (by omega) (by omega)).2 j9).trans ((congrFun (zz_ne (by omega)) j9).trans ((Eq.refl (I (w) j9)))))))))) (Or.inr hE.1) (by decide) (by first | omega | (simp only [List.length_append, List.length_cons, List.length_nil, show (zSW.getD 10 []).length = 4 from rfl, show (zSW.getD 11 []).length = 1 from rfl, show (zSW.getD 12 []).length = 1 from rfl, show (zSW.getD 13 []).length = 8 from rfl, show (zSW.getD 14 []).length = 9 from rfl, show (zSW.getD 15 []).length = 10 from rfl, show (zSW.getD 16 []).length = 5 from rfl]; omega)) (fun JT1 hT2 hW3 => ?_)
  refine zr_aload0 X dL_randomRow_37 ?_
  refine zr_aload1 X dL_randomRow_38 ?_
  refine zr_aload3 X dL_randomRow_39 ?_
  refine zr_getI X zf_L_123 rfl dL_randomRow_40 ?_
  refine zr_eq (x2 := (nI (1 + v26))) ((congrFun (hW3 (z1) (by omega) (by omega)) 0).trans ((zput_nj (by decide)).trans ((zput_ne (by omega)).trans (zput_eq)))) ?_
  refine zr_callSQ (rm9 := zrm_L_writeNumber) (As := [vr (x) 7, vr (w) 19, vi ((nI (1 + v26)))]) (st := []) X zm_L_136 rfl rfl ⟨by decide, Nat.le_of_ble_eq_true rfl⟩ ⟨by decide, by decide⟩ (Nat.le_of_ble_eq_true rfl) dL_randomRow_43 ?_
  refine zp_L_writeNumber (L := ([] ++ zSW.getD 10 [])) (n9 := (1 + v26)) hT2 (Or.inr hE.1) (by omega) (by first | omega | (simp only [List.length_append, List.length_cons, List.length_nil, show (zSW.getD 10 []).length = 4 from rfl, show (zSW.getD 11 []).length = 1 from rfl, show (zSW.getD 12 []).length = 1 from rfl, show (zSW.getD 13 []).length = 8 from rfl, show (zSW.getD 14 []).length = 9 from rfl, show (zSW.getD 15 []).length = 10 from rfl, show (zSW.getD 16 []).length = 5 from rfl]; omega)) (fun JT4 hT5 hW6 => ?_)
  refine zr_aload0 X dL_randomRow_46 ?_
  refine zr_aload1 X dL_randomRow_47 ?_
  refine zr_ldcS X 11 rfl (by decide) dL_randomRow_48 ?_
  refine zr_callSQ (rm9 := zrm_L_write) (As := [vr (x) 7, vr (w) 19, vr (sa 11) (24 + 11)]) (st := []) X zm_L_132 rfl rfl ⟨by decide, Nat.le_of_ble_eq_true rfl⟩ ⟨by decide, by decide⟩ (Nat.le_of_ble_eq_true rfl) dL_randomRow_50 ?_
  refine zp_L_write (L := (([] ++ zSW.getD 10 []) ++ [48 + (1 + v26)])) (i := 11) hT5 (Or.inr hE.1) (by decide) (by first | omega | (simp only [List.length_append, List.length_cons, List.length_nil, show (zSW.getD 10 []).length = 4 from rfl, show (zSW.getD 11 []).length = 1 from rfl, show (zSW.getD 12 []).length = 1 from rfl, show (zSW.getD 13 []).length = 8 from rfl, show (zSW.getD 14 []).length = 9 from rfl, show (zSW.getD 15 []).length = 10 from rfl, show (zSW.getD 16 []).length = 5 from rfl]; omega)) (fun JT7 hT8 hW9 => ?_)
  refine zr_aload0 X dL_randomRow_53 ?_
  refine zr_aload1 X dL_randomRow_54 ?_
  refine zr_aload3 X dL_randomRow_55 ?_
  refine zr_getI X zf_L_127 rfl dL_randomRow_56 ?_
  refine zr_eq (x2 := (nI (1 + v29))) ((congrFun (hW9 (z1) (by omega) (by omega)) 1).trans ((congrFun (hW6 (z1) (by omega) (by omega)) 1).trans ((congrFun (hW3 (z1) (by omega) (by omega)) 1).trans (zput_eq)))) ?_
  refine zr_callSQ (rm9 := zrm_L_writeNumber) (As := [vr (x) 7, vr (w) 19, vi ((nI (1 + v29)))]) (st := []) X zm_L_136 rfl rfl ⟨by decide, Nat.le_of_ble_eq_true rfl⟩ ⟨by decide, by decide⟩ (Nat.le_of_ble_eq_true rfl) dL_randomRow_59 ?_
  refine zp_L_writeNumber (L := ((([] ++ zSW.getD 10 []) ++ [48 + (1 + v26)]) ++ zSW.getD 11 [])) (n9 := (1 + v29)) hT8 (Or.inr hE.1) (by omega) (by first | omega | (simp only [List.length_append, List.length_cons, List.length_nil, show (zSW.getD 10 []).length = 4 from rfl, show (zSW.getD 11 []).length = 1 from rfl, show (zSW.getD 12 []).length = 1 from rfl, show (zSW.getD 13 []).length = 8 from rfl, show (zSW.getD 14 []).length = 9 from rfl, show (zSW.getD 15 []).length = 10 from rfl, show (zSW.getD 16 []).length = 5 from rfl]; omega)) (fun JT10 hT11 hW12 => ?_)
  refine zr_aload0 X dL_randomRow_62 ?_
  refine zr_aload1 X dL_randomRow_63 ?_
  refine zr_ldcS X 12 rfl (by decide) dL_randomRow_64 ?_
  refine zr_callSQ (rm9 := zrm_L_write) (As := [vr (x) 7, vr (w) 19, vr (sa 12) (24 + 12)]) (st := []) X zm_L_132 rfl rfl ⟨by decide, Nat.le_of_ble_eq_true rfl⟩ ⟨by decide, by decide⟩ (Nat.le_of_ble_eq_true rfl) dL_randomRow_66 ?_
  refine zp_L_write (L := (((([] ++ zSW.getD 10 []) ++ [48 + (1 + v26)]) ++ zSW.getD 11 []) ++ [48 + (1 + v29)])) (i := 12) hT11 (Or.inr hE.1) (by decide) (by first | omega | (simp only [List.length_append, List.length_cons, List.length_nil, show (zSW.getD 10 []).length = 4 from rfl, show (zSW.getD 11 []).length = 1 from rfl, show (zSW.getD 12 []).length = 1 from rfl, show (zSW.getD 13 []).length = 8 from rfl, show (zSW.getD 14 []).length = 9 from rfl, show (zSW.getD 15 []).length = 10 from rfl, show (zSW.getD 16 []).length = 5 from rfl]; omega)) (fun JT13 hT14 hW15 => ?_)
  refine zr_aload3 X dL_randomRow_69 ?_
  refine zr_iconst (v := (1 : Int32)) X dL_randomRow_70 (by decide) ?_
  refine zr_aload2 X dL_randomRow_71 ?_
  refine zr_iconst (v := (4 : Int32)) X dL_randomRow_72 (by decide) ?_
  refine zr_callVQ (rm9 := zrm_X11_below) (As := [vi ((4 : Int32))]) (st := [vi ((1 : Int32)), vr (z1) 17]) X zm_L_118 rfl rfl ⟨by decide, Nat.le_of_ble_eq_true rfl⟩ ⟨by decide, by decide⟩ (Nat.le_of_ble_eq_true rfl) dL_randomRow_73 ?_
  refine zp_X11_below (b := 4) (by omega) (by omega) (fun vv31 v32 hv33 => ?_)
  refine zr_iadd X dL_randomRow_76 ?_
  refine zr_eq (x2 := (nI (1 + v32))) (nI_add (1) (v32)) ?_
  refine zr_putI X zf_L_143 rfl (Or.inl rfl) dL_randomRow_77 ?_
  refine zr_iconst (v := (0 : Int32)) X dL_randomRow_80 (by decide) ?_
  refine zr_istore4 X (by decide) rfl dL_randomRow_81 ?_
  have he : ((((([] ++ zSW.getD 10 []) ++ [48 + (1 + v26)]) ++ zSW.getD 11 []) ++ [48 + (1 + v29)]) ++ zSW.getD 12 []) = [114, 111, 119, 32, 48 + (1 + v26), 32, 48 + (1 + v29), 59] := rfl
  have hok0 : zOk [114, 111, 119, 32, 48 + (1 + v26), 32, 48 + (1 + v29), 59] (tX (tX zBlank 0 (nI (1 + v26))) 1 (nI (1 + v29))) 0 0 := ⟨zRd_head (by omega) (by omega) (by omega) (by omega), ⟨zWf_hf zWf_blank ⟨by omega, by omega⟩ ⟨by omega, by omega⟩, zGp_blank.kp ((zKp.x (by decide)).tr (zKp.x (by decide))), fun i hi => absurd hi (Nat.not_lt_zero _)⟩, rfl, rfl⟩
  have hTx0 : zTx (zput (zput JT13 (r) 0 (vv31)) (z1) 4 ((nI (1 + v32)))) x w er S U ((((([] ++ zSW.getD 10 []) ++ [48 + (1 + v26)]) ++ zSW.getD 11 []) ++ [48 + (1 + v29)]) ++ zSW.getD 12 []) := (zTx.on hT14 (fun q q1 q2 => funext fun j9 => (zput_ne (by omega)).trans ((zput_ne (by omega)).trans ((Eq.refl (JT13 (q) j9))))) (funext fun j9 => (zput_ne (by omega)).trans ((zput_ne (by omega)).trans ((Eq.refl (JT13 (w) j9))))))
  rw [he] at hTx0
  have hz_0 : (zput (zput JT13 (r) 0 (vv31)) (z1) 4 ((nI (1 + v32)))) (z1) 0 = (nI (1 + v26)) := (zput_nj (by decide)).trans ((zput_ne (by omega)).trans ((congrFun (hW15 (z1) (by omega) (by omega)) 0).trans ((congrFun (hW12 (z1) (by omega) (by omega)) 0).trans ((congrFun (hW9 (z1) (by omega) (by omega)) 0).trans ((congrFun (hW6 (z1) (by omega) (by omega)) 0).trans ((congrFun (hW3 (z1) (by omega) (by omega)) 0).trans ((zput_nj (by decide)).trans ((zput_ne (by omega)).trans (zput_eq)))))))))
  have hz_1 : (zput (zput JT13 (r) 0 (vv31)) (z1) 4 ((nI (1 + v32)))) (z1) 1 = (nI (1 + v29)) := (zput_nj (by decide)).trans ((zput_ne (by omega)).trans ((congrFun (hW15 (z1) (by omega) (by omega)) 1).trans ((congrFun (hW12 (z1) (by omega) (by omega)) 1).trans ((congrFun (hW9 (z1) (by omega) (by omega)) 1).trans ((congrFun (hW6 (z1) (by omega) (by omega)) 1).trans ((congrFun (hW3 (z1) (by omega) (by omega)) 1).trans (zput_eq)))))))
  have hz_2 : (zput (zput JT13 (r) 0 (vv31)) (z1) 4 ((nI (1 + v32)))) (z1) 2 = (0 : Int32) := (zput_nj (by decide)).trans ((zput_ne (by omega)).trans ((congrFun (hW15 (z1) (by omega) (by omega)) 2).trans ((congrFun (hW12 (z1) (by omega) (by omega)) 2).trans ((congrFun (hW9 (z1) (by omega) (by omega)) 2).trans ((congrFun (hW6 (z1) (by omega) (by omega)) 2).trans ((congrFun (hW3 (z1) (by omega) (by omega)) 2).trans ((zput_nj (by decide)).trans ((zput_ne (by omega)).trans ((zput_nj (by decide)).trans ((zput_ne (by omega)).trans (hv18.2.2.1)))))))))))
  have hz_3 : (zput (zput JT13 (r) 0 (vv31)) (z1) 4 ((nI (1 + v32)))) (z1) 3 = (0 : Int32) := (zput_nj (by decide)).trans ((zput_ne (by omega)).trans ((congrFun (hW15 (z1) (by omega) (by omega)) 3).trans ((congrFun (hW12 (z1) (by omega) (by omega)) 3).trans ((congrFun (hW9 (z1) (by omega) (by omega)) 3).trans ((congrFun (hW6 (z1) (by omega) (by omega)) 3).trans ((congrFun (hW3 (z1) (by omega) (by omega)) 3).trans ((zput_nj (by decide)).trans ((zput_ne (by omega)).trans ((zput_nj (by decide)).trans ((zput_ne (by omega)).trans (hv18.2.2.2.1)))))))))))
  have hz_4 : (zput (zput JT13 (r) 0 (vv31)) (z1) 4 ((nI (1 + v32)))) (z1) 4 = (nI (1 + v32)) := zput_eq
  have hz_9 : (zput (zput JT13 (r) 0 (vv31)) (z1) 4 ((nI (1 + v32)))) (z1) 9 = (0 : Int32) := (zput_nj (by decide)).trans ((zput_ne (by omega)).trans ((congrFun (hW15 (z1) (by omega) (by omega)) 9).trans ((congrFun (hW12 (z1) (by omega) (by omega)) 9).trans ((congrFun (hW9 (z1) (by omega) (by omega)) 9).trans ((congrFun (hW6 (z1) (by omega) (by omega)) 9).trans ((congrFun (hW3 (z1) (by omega) (by omega)) 9).trans ((zput_nj (by decide)).trans ((zput_ne (by omega)).trans ((zput_nj (by decide)).trans ((zput_ne (by omega)).trans (hv18.2.2.2.2.2.2.1)))))))))))
  have hz_10 : (zput (zput JT13 (r) 0 (vv31)) (z1) 4 ((nI (1 + v32)))) (z1) 10 = (0 : Int32) := (zput_nj (by decide)).trans ((zput_ne (by omega)).trans ((congrFun (hW15 (z1) (by omega) (by omega)) 10).trans ((congrFun (hW12 (z1) (by omega) (by omega)) 10).trans ((congrFun (hW9 (z1) (by omega) (by omega)) 10).trans ((congrFun (hW6 (z1) (by omega) (by omega)) 10).trans ((congrFun (hW3 (z1) (by omega) (by omega)) 10).trans ((zput_nj (by decide)).trans ((zput_ne (by omega)).trans ((zput_nj (by decide)).trans ((zput_ne (by omega)).trans (hv18.2.2.2.2.2.2.2.1)))))))))))
  have hz_11 : (zput (zput JT13 (r) 0 (vv31)) (z1) 4 ((nI (1 + v32)))) (z1) 11 = (0 : Int32) := (zput_nj (by decide)).trans ((zput_ne (by omega)).trans ((congrFun (hW15 (z1) (by omega) (by omega)) 11).trans ((congrFun (hW12 (z1) (by omega) (by omega)) 11).trans ((congrFun (hW9 (z1) (by omega) (by omega)) 11).trans ((congrFun (hW6 (z1) (by omega) (by omega)) 11).trans ((congrFun (hW3 (z1) (by omega) (by omega)) 11).trans ((zput_nj (by decide)).trans ((zput_ne (by omega)).trans ((zput_nj (by decide)).trans ((zput_ne (by omega)).trans (hv18.2.2.2.2.2.2.2.2.1)))))))))))
  have hz_12 : (zput (zput JT13 (r) 0 (vv31)) (z1) 4 ((nI (1 + v32)))) (z1) 12 = (0 : Int32) := (zput_nj (by decide)).trans ((zput_ne (by omega)).trans ((congrFun (hW15 (z1) (by omega) (by omega)) 12).trans ((congrFun (hW12 (z1) (by omega) (by omega)) 12).trans ((congrFun (hW9 (z1) (by omega) (by omega)) 12).trans ((congrFun (hW6 (z1) (by omega) (by omega)) 12).trans ((congrFun (hW3 (z1) (by omega) (by omega)) 12).trans ((zput_nj (by decide)).trans ((zput_ne (by omega)).trans ((zput_nj (by decide)).trans ((zput_ne (by omega)).trans (hv18.2.2.2.2.2.2.2.2.2.1)))))))))))
  have hz_13 : (zput (zput JT13 (r) 0 (vv31)) (z1) 4 ((nI (1 + v32)))) (z1) 13 = (0 : Int32) := (zput_nj (by decide)).trans ((zput_ne (by omega)).trans ((congrFun (hW15 (z1) (by omega) (by omega)) 13).trans ((congrFun (hW12 (z1) (by omega) (by omega)) 13).trans ((congrFun (hW9 (z1) (by omega) (by omega)) 13).trans ((congrFun (hW6 (z1) (by omega) (by omega)) 13).trans ((congrFun (hW3 (z1) (by omega) (by omega)) 13).trans ((zput_nj (by decide)).trans ((zput_ne (by omega)).trans ((zput_nj (by decide)).trans ((zput_ne (by omega)).trans (hv18.2.2.2.2.2.2.2.2.2.2.1)))))))))))
  have hz_14 : (zput (zput JT13 (r) 0 (vv31)) (z1) 4 ((nI (1 + v32)))) (z1) 14 = (0 : Int32) := (zput_nj (by decide)).trans ((zput_ne (by omega)).trans ((congrFun (hW15 (z1) (by omega) (by omega)) 14).trans ((congrFun (hW12 (z1) (by omega) (by omega)) 14).trans ((congrFun (hW9 (z1) (by omega) (by omega)) 14).trans ((congrFun (hW6 (z1) (by omega) (by omega)) 14).trans ((congrFun (hW3 (z1) (by omega) (by omega)) 14).trans ((zput_nj (by decide)).trans ((zput_ne (by omega)).trans ((zput_nj (by decide)).trans ((zput_ne (by omega)).trans (hv18.2.2.2.2.2.2.2.2.2.2.2)))))))))))
  have hE9 : x + 501 ≤ w ∧ x + 501 ≤ r ∧ w ≠ r ∧ w < z1 ∧ r < z1 := ⟨hE.1, hE.2.1, hE.2.2, hf2 _ _ hkw, hf2 _ _ hkr⟩
  refine zlr_L_randomRow (z := z1) (n7 := (1 + v32)) (Iv := ((zput (zput JT13 (r) 0 (vv31)) (z1) 4 ((nI (1 + v32)))) (z1))) (h9 := (nI (1 + v26))) (f9 := (nI (1 + v29))) (I := I) (K := K) X hnt hE9 hz_4 (by omega) (fun B T L K9 J cells slots iP iK iL ix ifr iB iv iT iX ic is => ?_) ((1 + v32) + 1) 0 (zB4 z1 z8 z9 z10) (tX (tX zBlank 0 (nI (1 + v26))) 1 (nI (1 + v29))) _ _ _ _ _ (Nat.zero_le _) (zPt.start (by omega) (by omega) (by omega) hk24 hkn16.1 hkn16.2.1 hkn16.2.2 (hr17.1) (hr17.2.1) (hr17.2.2)) hok0 (Nat.le_refl _) ((kex.rf.tr (kup_ex hf2)).tr hx13) (fun q hq => ⟨funext fun j9 => (congrFun (hfr20 (q) (by omega) (by omega)).1 j9).trans ((kup_old2 (by omega)).trans ((rfl))), fun a1 a2 a3 => funext fun j9 => (zput_ne (by omega)).trans ((zput_ne (by omega)).trans ((congrFun (hW15 (q) (by omega) (by omega)) j9).trans ((congrFun (hW12 (q) (by omega) (by omega)) j9).trans ((congrFun (hW9 (q) (by omega) (by omega)) j9).trans ((congrFun (hW6 (q) (by omega) (by omega)) j9).trans ((congrFun (hW3 (q) (by omega) (by omega)) j9).trans ((zput_ne (by omega)).trans ((zput_ne (by omega)).trans ((zput_ne (by omega)).trans ((zput_ne (by omega)).trans ((congrFun (hfr20 (q) (by omega) (by omega)).2 j9).trans ((congrFun (zz_ne (by omega)) j9)))))))))))))⟩) rfl ⟨rfl, fun k9 => (show (zput (zput JT13 (r) 0 (vv31)) (z1) 4 ((nI (1 + v32)))) (z10) k9 = 0 from (zput_ne (by omega)).trans ((zput_ne (by omega)).trans ((congrFun (hW15 (z10) (by omega) (by omega)) k9).trans ((congrFun (hW12 (z10) (by omega) (by omega)) k9).trans ((congrFun (hW9 (z10) (by omega) (by omega)) k9).trans ((congrFun (hW6 (z10) (by omega) (by omega)) k9).trans ((congrFun (hW3 (z10) (by omega) (by omega)) k9).trans ((zput_ne (by omega)).trans ((zput_ne (by omega)).trans ((zput_ne (by omega)).trans ((zput_ne (by omega)).trans (hz19 k9))))))))))))⟩ hTx0 (fun _ _ _ _ => rfl) (by decide) (by decide) (by omega)
  have hng := iK.2.2.1
  have hBz : K9.1 z1 = some 17 := by have := iP.2.1.1; rwa [iB] at this
  obtain ⟨kB1, hB1⟩ := iP.1.2 1 (by unfold zvd; omega)
  obtain ⟨kB2, hB2⟩ := iP.1.2 2 (by unfold zvd; omega)
  obtain ⟨kB3, hB3⟩ := iP.1.2 3 (by unfold zvd; omega)
  have hz1 : z1 < B 1 := by have := iP.1.1 0 1 (by unfold zvd; omega) (by unfold zvd; omega) (by omega); rwa [iB] at this
  have hb12 := iP.1.1 1 2 (by unfold zvd; omega) (by unfold zvd; omega) (by omega)
  have hb23 := iP.1.1 2 3 (by unfold zvd; omega) (by unfold zvd; omega) (by omega)
  refine zr_aload3 X dL_randomRow_173 ?_
  refine zr_iconst (v := (1 : Int32)) X dL_randomRow_174 (by decide) ?_
  refine zr_aload2 X dL_randomRow_175 ?_
  refine zr_bipush (v := (8 : Int32)) X dL_randomRow_176 (by decide) ?_
  refine zr_callVQ (rm9 := zrm_X11_below) (As := [vi ((8 : Int32))]) (st := [vi ((1 : Int32)), vr (z1) 17]) X zm_L_118 rfl rfl ⟨by decide, Nat.le_of_ble_eq_true rfl⟩ ⟨by simp only [zrm_L_randomRow, zrm_X9_init, zrm_X8_init, zrm_X12_init, zrm_X11_below, zrm_L_write, zrm_L_writeNumber, zrm_L_put, zrm_X12_tick, zrm_X12_join, zrm_X12_whyNot]; omega, by simp only [zrm_L_randomRow, zrm_X9_init, zrm_X8_init, zrm_X12_init, zrm_X11_below, zrm_L_write, zrm_L_writeNumber, zrm_L_put, zrm_X12_tick, zrm_X12_join, zrm_X12_whyNot]; omega⟩ (Nat.le_of_ble_eq_true rfl) dL_randomRow_178 ?_
  refine zp_X11_below (b := 8) (by omega) (by omega) (fun vv34 v35 hv36 => ?_)
  refine zr_iadd X dL_randomRow_181 ?_
  refine zr_eq (x2 := (nI (1 + v35))) (nI_add (1) (v35)) ?_
  refine zr_putI X zf_L_163 rfl (Or.inl rfl) dL_randomRow_182 ?_
  refine zr_iconst (v := (0 : Int32)) X dL_randomRow_185 (by decide) ?_
  refine zr_istore4 X (by decide) rfl dL_randomRow_186 ?_
  have hIv6 : (zput (zput J (r) 0 (vv34)) (z1) 6 ((nI (1 + v35)))) (z1) 6 = nI ((1 + v35)) := zput_eq
  have hP4 : zPt K9 ((zput (zput J (r) 0 (vv34)) (z1) 6 ((nI (1 + v35))))) B T ((1 + v32)) 0 := iP.k4 (fun i hi h4 => by have h0 := iP.1.1 0 i (by unfold zvd; omega) hi (by omega); exact funext fun j9 => (zput_ne (by omega)).trans ((zput_ne (by omega))))
  have hy_0 : (zput (zput J (r) 0 (vv34)) (z1) 6 ((nI (1 + v35)))) (z1) 0 = _ := ((zput_nj (by decide)).trans ((zput_ne (by omega)))).trans ((congrFun iv.1 0).trans hz_0)
  have hy_1 : (zput (zput J (r) 0 (vv34)) (z1) 6 ((nI (1 + v35)))) (z1) 1 = _ := ((zput_nj (by decide)).trans ((zput_ne (by omega)))).trans ((congrFun iv.1 1).trans hz_1)
  have hy_2 : (zput (zput J (r) 0 (vv34)) (z1) 6 ((nI (1 + v35)))) (z1) 2 = _ := ((zput_nj (by decide)).trans ((zput_ne (by omega)))).trans ((congrFun iv.1 2).trans hz_2)
  have hy_3 : (zput (zput J (r) 0 (vv34)) (z1) 6 ((nI (1 + v35)))) (z1) 3 = _ := ((zput_nj (by decide)).trans ((zput_ne (by omega)))).trans ((congrFun iv.1 3).trans hz_3)
  have hy_4 : (zput (zput J (r) 0 (vv34)) (z1) 6 ((nI (1 + v35)))) (z1) 4 = _ := ((zput_nj (by decide)).trans ((zput_ne (by omega)))).trans ((congrFun iv.1 4).trans hz_4)
  have hy_9 : (zput (zput J (r) 0 (vv34)) (z1) 6 ((nI (1 + v35)))) (z1) 9 = _ := ((zput_nj (by decide)).trans ((zput_ne (by omega)))).trans ((congrFun iv.1 9).trans hz_9)
  have hy_10 : (zput (zput J (r) 0 (vv34)) (z1) 6 ((nI (1 + v35)))) (z1) 10 = _ := ((zput_nj (by decide)).trans ((zput_ne (by omega)))).trans ((congrFun iv.1 10).trans hz_10)
  have hy_11 : (zput (zput J (r) 0 (vv34)) (z1) 6 ((nI (1 + v35)))) (z1) 11 = _ := ((zput_nj (by decide)).trans ((zput_ne (by omega)))).trans ((congrFun iv.1 11).trans hz_11)
  have hy_12 : (zput (zput J (r) 0 (vv34)) (z1) 6 ((nI (1 + v35)))) (z1) 12 = _ := ((zput_nj (by decide)).trans ((zput_ne (by omega)))).trans ((congrFun iv.1 12).trans hz_12)
  have hy_13 : (zput (zput J (r) 0 (vv34)) (z1) 6 ((nI (1 + v35)))) (z1) 13 = _ := ((zput_nj (by decide)).trans ((zput_ne (by omega)))).trans ((congrFun iv.1 13).trans hz_13)
  have hy_14 : (zput (zput J (r) 0 (vv34)) (z1) 6 ((nI (1 + v35)))) (z1) 14 = _ := ((zput_nj (by decide)).trans ((zput_ne (by omega)))).trans ((congrFun iv.1 14).trans hz_14)
  have hTx1 : zTx (zput (zput J (r) 0 (vv34)) (z1) 6 ((nI (1 + v35)))) x w er S U L := (zTx.on iT (fun q q1 q2 => funext fun j9 => (zput_ne (by omega)).trans ((zput_ne (by omega)).trans ((Eq.refl (J (q) j9))))) (funext fun j9 => (zput_ne (by omega)).trans ((zput_ne (by omega)).trans ((Eq.refl (J (w) j9))))))
  refine zlq_L_randomRow (z := z1) (n7 := (1 + v32)) (m7 := (1 + v35)) (Iv := ((zput (zput J (r) 0 (vv34)) (z1) 6 ((nI (1 + v35)))) (z1))) (h9 := (nI (1 + v26))) (f9 := (nI (1 + v29))) (I := I) (K := K) X hnt hE9 hIv6 (by omega) (by omega) (fun B T L K9 J cells slots iP iK iL ix ifr iB iv iT iX ic is => ?_) ((1 + v35) + 1) 0 B T L K9 _ _ _ (Nat.zero_le _) hP4 iK (by omega) ix (fun q hq => ⟨(ifr q hq).1, fun a1 a2 a3 => (funext fun j9 => (zput_ne (by omega)).trans ((zput_ne (by omega)))).trans ((ifr q hq).2 a1 a2 a3)⟩) iB ⟨rfl, fun k => ((zput_ne (by omega)).trans ((zput_ne (by omega)))).trans (iv.2 k)⟩ hTx1 iX (by simp only [zrm_L_randomRow, zrm_X9_init, zrm_X8_init, zrm_X12_init, zrm_X11_below, zrm_L_write, zrm_L_writeNumber, zrm_L_put, zrm_X12_tick, zrm_X12_join, zrm_X12_whyNot]; omega) (by simp only [zrm_L_randomRow, zrm_X9_init, zrm_X8_init, zrm_X12_init, zrm_X11_below, zrm_L_write, zrm_L_writeNumber, zrm_L_put, zrm_X12_tick, zrm_X12_join, zrm_X12_whyNot]; omega) (by omega)
  have hng := iK.2.2.1
  have hBz : K9.1 z1 = some 17 := by have := iP.2.1.1; rwa [iB] at this
  obtain ⟨kB1, hB1⟩ := iP.1.2 1 (by unfold zvd; omega)
  obtain ⟨kB2, hB2⟩ := iP.1.2 2 (by unfold zvd; omega)
  obtain ⟨kB3, hB3⟩ := iP.1.2 3 (by unfold zvd; omega)
  have hz1 : z1 < B 1 := by have := iP.1.1 0 1 (by unfold zvd; omega) (by unfold zvd; omega) (by omega); rwa [iB] at this
  have hb12 := iP.1.1 1 2 (by unfold zvd; omega) (by unfold zvd; omega) (by omega)
  have hb23 := iP.1.1 2 3 (by unfold zvd; omega) (by unfold zvd; omega) (by omega)
  have hnc := iK.2.2.2
  refine zr_iconst (v := (4 : Int32)) X dL_randomRow_269 (by decide) ?_
  refine zr_aload2 X dL_randomRow_270 ?_
  refine zr_bipush (v := (10 : Int32)) X dL_randomRow_271 (by decide) ?_
  refine zr_callVQ (rm9 := zrm_X11_below) (As := [vi ((10 : Int32))]) (st := [vi ((4 : Int32))]) X zm_L_118 rfl rfl ⟨by decide, Nat.le_of_ble_eq_true rfl⟩ ⟨by simp only [zrm_L_randomRow, zrm_X9_init, zrm_X8_init, zrm_X12_init, zrm_X11_below, zrm_L_write, zrm_L_writeNumber, zrm_L_put, zrm_X12_tick, zrm_X12_join, zrm_X12_whyNot]; omega, by simp only [zrm_L_randomRow, zrm_X9_init, zrm_X8_init, zrm_X12_init, zrm_X11_below, zrm_L_write, zrm_L_writeNumber, zrm_L_put, zrm_X12_tick, zrm_X12_join, zrm_X12_whyNot]; omega⟩ (Nat.le_of_ble_eq_true rfl) dL_randomRow_273 ?_
  refine zp_X11_below (b := 10) (by omega) (by omega) (fun vv37 v38 hv39 => ?_)
  refine zr_iadd X dL_randomRow_276 ?_
  refine zr_eq (x2 := (nI (4 + v38))) (nI_add (4) (v38)) ?_
  refine zr_istore4 X (by decide) rfl dL_randomRow_277 ?_
  have hW := iK.2.1.1
  have hP4 : zPt K9 ((zput J (r) 0 (vv37))) B T (1 + v32) (1 + v35) := iP.k4 (fun i hi h4 => by have h0 := iP.1.1 0 i (by unfold zvd; omega) hi (by omega); exact funext fun j9 => (zput_ne (by omega)))
  have h4 : sX T 4 = nI (1 + v32) := by have := hW.ng.2; rwa [iK.2.2.1] at this
  have h5 : sX T 5 = nI (1 + v35) := by have := hW.nc.2; rwa [iK.2.2.2] at this
  have hX9 : ∀ i : Nat, i < 15 → (i < 6 ∨ 9 ≤ i) → (zput J (r) 0 (vv37)) (z1) (zss i) = sX T i := zx15 (f := (zput J (r) 0 (vv37)) (z1)) (((congrFun (funext fun j9 => (zput_ne (by omega))) 0).trans (congrFun iv.1 0)).trans (hy_0.trans (iX 0 (by decide) (by decide) (by decide)).symm)) (((congrFun (funext fun j9 => (zput_ne (by omega))) 1).trans (congrFun iv.1 1)).trans (hy_1.trans (iX 1 (by decide) (by decide) (by decide)).symm)) (((congrFun (funext fun j9 => (zput_ne (by omega))) 2).trans (congrFun iv.1 2)).trans (hy_2.trans (iX 2 (by decide) (by decide) (by decide)).symm)) (((congrFun (funext fun j9 => (zput_ne (by omega))) 3).trans (congrFun iv.1 3)).trans (hy_3.trans (iX 3 (by decide) (by decide) (by decide)).symm)) (((congrFun (funext fun j9 => (zput_ne (by omega))) 4).trans (congrFun iv.1 4)).trans (hy_4.trans h4.symm)) (((congrFun (funext fun j9 => (zput_ne (by omega))) 6).trans (congrFun iv.1 6)).trans (hIv6.trans h5.symm)) (((congrFun (funext fun j9 => (zput_ne (by omega))) 9).trans (congrFun iv.1 9)).trans (hy_9.trans (iX 9 (by decide) (by decide) (by decide)).symm)) (((congrFun (funext fun j9 => (zput_ne (by omega))) 10).trans (congrFun iv.1 10)).trans (hy_10.trans (iX 10 (by decide) (by decide) (by decide)).symm)) (((congrFun (funext fun j9 => (zput_ne (by omega))) 11).trans (congrFun iv.1 11)).trans (hy_11.trans (iX 11 (by decide) (by decide) (by decide)).symm)) (((congrFun (funext fun j9 => (zput_ne (by omega))) 12).trans (congrFun iv.1 12)).trans (hy_12.trans (iX 12 (by decide) (by decide) (by decide)).symm)) (((congrFun (funext fun j9 => (zput_ne (by omega))) 13).trans (congrFun iv.1 13)).trans (hy_13.trans (iX 13 (by decide) (by decide) (by decide)).symm)) (((congrFun (funext fun j9 => (zput_ne (by omega))) 14).trans (congrFun iv.1 14)).trans (hy_14.trans (iX 14 (by decide) (by decide) (by decide)).symm))
  obtain ⟨A, eA, hS, hM⟩ := hP4.done (by omega) (by omega) h4 h5 (by rw [iB]; exact hX9) (fun k hk => (((zput_ne (by omega))).trans (iv.2 k)).trans ((iX (6 + k) (by omega) (by omega) (by omega)).trans (by rcases (show k = 0 ∨ k = 1 ∨ k = 2 by omega) with rfl | rfl | rfl <;> rfl)).symm)
  have v0 : zvd (1 + v32) (1 + v35) 0 := by unfold zvd; omega
  have hz0 : A 0 = z1 := (eA 0 v0).trans iB
  have hge : ∀ i, zvd (1 + v32) (1 + v35) i → z1 ≤ A i := fun i hi => by rw [eA i hi]; have := iP.ge hi; omega
  have hEx : zEx x w r A (1 + v32) (1 + v35) := ⟨fun i hi => by have := hge i hi; exact ⟨by omega, by omega, by omega⟩, hE.1, hE.2.1, hE.2.2⟩
  have hTx2 : zTx (zput J (r) 0 (vv37)) x w er S U L := (zTx.on iT (fun q q1 q2 => funext fun j9 => (zput_ne (by omega)).trans ((Eq.refl (J (q) j9)))) (funext fun j9 => (zput_ne (by omega)).trans ((Eq.refl (J (w) j9)))))
  have hfr9 : ∀ q, q < z1 → K9.2 q = K.2 q ∧ ((q < x ∨ x + 501 ≤ q) → q ≠ w → q ≠ r → (zput J (r) 0 (vv37)) q = I q) := fun q hq => ⟨(ifr q hq).1, fun a1 a2 a3 => (funext fun j9 => (zput_ne (by omega))).trans ((ifr q hq).2 a1 a2 a3)⟩
  have hkz := hf2
  rw [← hz0] at hkz hge hfr9
  rw [show (vr z1 17 : AV) = vr (A 0) 17 by rw [hz0]]
  refine zlw_L_randomRow (A := A) (n7 := (1 + v32)) (m7 := (1 + v35)) (I9 := (zput J (r) 0 (vv37))) (I := I) (K := K) X hnt ix (by simp only [zrm_L_randomRow, zrm_X9_init, zrm_X8_init, zrm_X12_init, zrm_X11_below, zrm_L_write, zrm_L_writeNumber, zrm_L_put, zrm_X12_tick, zrm_X12_join, zrm_X12_whyNot]; omega) (by simp only [zrm_L_randomRow, zrm_X9_init, zrm_X8_init, zrm_X12_init, zrm_X11_below, zrm_L_write, zrm_L_writeNumber, zrm_L_put, zrm_X12_tick, zrm_X12_join, zrm_X12_whyNot]; omega) hS hEx (by omega) (by omega) (by omega) (by omega) (fun J2 L2 T2 i2 i3 i4 i5 => ?_) ((4 + v38) + 1) ((4 + v38)) L T _ (by omega) ⟨hTx2, hM⟩ iK (by omega) zfx.rf (by omega)
  refine zr_aload0 X dL_randomRow_474 ?_
  refine zr_aload1 X dL_randomRow_475 ?_
  refine zr_callSQ (rm9 := zrm_L_loadText) (As := [vr (x) 7, vr (w) 19]) (st := []) X zm_L_193 rfl rfl ⟨by decide, Nat.le_of_ble_eq_true rfl⟩ ⟨by simp only [zrm_L_randomRow, zrm_X9_init, zrm_X8_init, zrm_X12_init, zrm_X11_below, zrm_L_write, zrm_L_writeNumber, zrm_L_put, zrm_X12_tick, zrm_X12_join, zrm_X12_whyNot]; omega, by simp only [zrm_L_randomRow, zrm_X9_init, zrm_X8_init, zrm_X12_init, zrm_X11_below, zrm_L_write, zrm_L_writeNumber, zrm_L_put, zrm_X12_tick, zrm_X12_join, zrm_X12_whyNot]; omega⟩ (Nat.le_of_ble_eq_true rfl) dL_randomRow_476 ?_
  refine zp_L_loadText (L := L2) (S2 := T2) i2.1 (Or.inr hE.1) (by omega) i3.1.all (fun JL16 t40 hC17 hW18 => ?_)
  have hM19 : zSt JL16 A (1 + v32) (1 + v35) T2 := i2.2.on (fun i hi => hW18 _ (Or.inr (hEx.1 i hi).1) (hEx.1 i hi).2.1)
  refine zr_eq (x2 := (nI (1 + v32))) (by have := i3.2.1.1.ng.2; rwa [i3.2.2.1] at this) ?_
  refine zr_aload3 X dL_randomRow_479 ?_
  refine zr_getI X zf_L_143 rfl dL_randomRow_480 ?_
  refine zr_eq (x2 := (nI (1 + v32))) ((hM19.2.2.1 4 (by decide) (by decide)).trans hM19.2.1.1) ?_
  refine zr_nicmp_ne X ((1 + v32)) ((1 + v32)) (tgt := 490) (by omega) (by omega) dL_randomRow_483 (by decide) (fun h41 => ?_) (fun h41 => ?_)
  · exact absurd rfl h41
  · skip
    refine zr_aload3 X dL_randomRow_486 ?_
    refine zr_goto (tgt := 491) X dL_randomRow_487 (by decide) ?_
    refine zr_aretD X (kex.rf.tr ix) (by simp only [zrm_L_randomRow, zrm_L_loadText, zrm_X11_below]; omega) (by simp only [zrm_L_randomRow, zrm_L_loadText, zrm_X11_below]; omega) dL_randomRow_491 ?_
    exact k1 K9 A (1 + v32) (1 + v35) T2 JL16 t40 hkz ix hS hM19 hC17 i3.2.1.2.1 (by omega) (by omega) hge (fun q hq => ⟨(hfr9 q hq).1, fun a1 a2 a3 => (hW18 q a1 a2).trans ((i5 q a1 a2 a3 (fun i hi => by have := hge i hi; omega)).trans ((hfr9 q hq).2 a1 a2 a3))⟩)
