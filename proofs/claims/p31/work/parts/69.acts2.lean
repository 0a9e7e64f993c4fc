/-! ===== more acts ===== -/
set_option maxRecDepth 20000 in
theorem zl336_L_act {l : Launch} {D : va_G} {b0 : Nat} {tA : Nat → ClassId} {sa sv : Nat → Nat} {K : zKt} {I : zI} {Qp : zI → Option AV → Prop} {Xp : String → zI → Prop} {p : Program} {e : Env} {s : State} {m : MethodId} {args : Array Value} {below : List Frame} {meth : Method} {c : Code} {x r f g c9 : Nat} {b : Int32} {t : Nat → Nat} {er : Int32} {S : zS} {U : List zS} {A : Nat → Nat} {n7 m7 : Nat}
    (X : zX p l e zrm_L_act s m args below meth c RL cL_act 18 (some .int) D b0 tA sa sv) (hnt : ∀ x ∈ c.exceptionTable.toList, False) (hS : zSh K A n7 m7) (hE : zEn x r A n7 m7) (hw : zWd I x t f er S U A n7 m7 (tC S c9 2 b)) (hG : zGp S) (hb : b = 0 ∨ b = 1) (hg : g < n7) (hc : c9 < m7) (k1 : ∀ (J : zI) (S2 : zS), zWd J x t f er S2 (qPush S U) A n7 m7 S2 → zGp S2 → zfa I J x r A n7 m7 → Qp J (some (vi 1))) :
    ∀ (n : Nat) (j cnt : Nat), j ≤ m7 → cnt = nsum (fun k => if sC (tC S c9 2 b) k 2 = 1 then 1 else 0) j → m7 - j < n → zG p l e zrm_L_act s m args below meth c 18 D b0 tA sa 0 0 (zQ below D b0 tA sa K args s zrm_L_act Qp Xp) K 336 [some (vr (x) 7), some (vr (A (0)) 17), some (vr (r) 16), some (vi ((nI g))), some (vi ((nI c9))), none, none, none, none, none, none, some (vi ((nI cnt))), some (vi ((nI j))), none, none, none, none, none] [] I := by
  intro n
  induction n with
  | zero => intro j cnt i1 i2 i9; exact absurd i9 (Nat.not_lt_zero _)
  | succ n ih =>
    intro j cnt i1 i2 i9
    have hA := hS.1
    have hM := hw.2
    have hW := hw.1.2.2.2.1
    have hn6 := hM.1.1
    have hm12 := hM.1.2
    have hcm : znc S = m7 := hM.nc
    refine zr_iload12 X dL_act_336 ?_
    refine zr_aload1 X dL_act_338 ?_
    refine zr_getI X zf_L_163 rfl dL_act_339 ?_
    refine zr_eq (x2 := (nI m7)) ((hw.2.2.2.1 5 (by decide) (by decide)).trans hw.2.2.1.2) ?_
    refine zr_nicmp_ge X (j) (m7) (tgt := 367) (by omega) (by omega) dL_act_342 (by decide) (fun h1 => ?_) (fun h1 => ?_)
    · skip
      have hj9 : j = m7 := by omega
      have e9 : cnt = qListed (tC S c9 2 b) := by rw [i2, hj9]; exact (nsum_tail (fun i hi => by rw [show sC (tC S c9 2 b) i 2 = 0 from (zu2_ne (fun z => by have := z.1; omega)).trans ((hW.blankc i (by omega)).1 2)]; rfl) 12 hm12).symm
      have hq9 : qListed (tC S c9 2 b) ≤ 12 := nsum_le (b := 1) (fun i => by split <;> omega) 12
      rw [e9]
      refine zr_aload0 X dL_act_367 ?_
      refine zr_iload4 X dL_act_368 ?_
      refine zr_aload1 X dL_act_370 ?_
      refine zr_getD (r := A (2)) X zf_L_166 rfl (by decide) (hS.2.1.2.2.1) dL_act_371 ?_
      refine zr_iload4 X dL_act_374 ?_
      refine zr_aaldD (k := 21) (n := c9) (r := A (40 + c9)) X rfl (show _ < 12 from (by first | decide | omega)) (hS.2.2.2.1 c9 (by omega)) dL_act_376 ?_
      refine zr_getZ X zf_L_219 rfl rfl (by decide) dL_act_377 (fun hz2 => ?_)
      refine zr_eq (x2 := (sC (tC S c9 2 b) c9 2)) (hw.2.2.2.2.2.2 c9 (by omega) 2 (by decide)) ?_
      have hz2 : (sC (tC S c9 2 b) c9 2) = 0 ∨ (sC (tC S c9 2 b) c9 2) = 1 := hz2.imp (fun h => Eq.trans (Eq.symm (hw.2.2.2.2.2.2 c9 (by omega) 2 (by decide))) h) (fun h => Eq.trans (Eq.symm (hw.2.2.2.2.2.2 c9 (by omega) 2 (by decide))) h)
      refine zr_eq (x2 := b) (zu2_eq) ?_
      refine zr_callSX (rm9 := zrm_L_list) (As := [vr (x) 7, vi ((nI c9)), vi (b)]) (st := []) X zmh_L_222 rfl rfl ⟨by decide, Nat.le_of_ble_eq_true rfl⟩ ⟨by decide, by decide⟩ (Nat.le_of_ble_eq_true rfl) dL_act_380 ?_
      have hR3 : rList S (nI c9) b = (0, nI (qListed (tC S c9 2 b))) ∧ sList S (nI c9) b = tC S c9 2 b := zR_list (by omega) (by omega)
      refine zL_list hw.1 (by exact hb) (fun J1 hJ2 => ?_)
      rw [zif_0 hR3.1, zif_0 hR3.1, hR3.2] at hJ2
      obtain ⟨hw3, hf4⟩ := zWd.cls hE hw hJ2
      refine zr_eq (x2 := nI (qListed (tC S c9 2 b))) (zcd_0 hR3.1) ?_
      refine zr_iload11 X dL_act_383 ?_
      refine zr_nicmp_ne X ((qListed (tC S c9 2 b))) ((qListed (tC S c9 2 b))) (tgt := 392) (by omega) (by omega) dL_act_385 (by decide) (fun h4 => ?_) (fun h4 => ?_)
      · exact absurd rfl h4
      · skip
        refine zr_iconst (v := (1 : Int32)) X dL_act_388 (by decide) ?_
        refine zr_goto (tgt := 393) X dL_act_389 (by decide) ?_
        refine zr_iret X (by decide) (by decide) dL_act_393 ?_
        exact k1 _ _ hw3 (hG.kp zKp.c) hf4
    · skip
      refine zr_aload1 X dL_act_345 ?_
      refine zr_getD (r := A (2)) X zf_L_166 rfl (by decide) (hS.2.1.2.2.1) dL_act_346 ?_
      refine zr_iload12 X dL_act_349 ?_
      refine zr_aaldD (k := 21) (n := j) (r := A (40 + j)) X rfl (show _ < 12 from (by first | decide | omega)) (hS.2.2.2.1 j (by omega)) dL_act_351 ?_
      refine zr_getZ X zf_L_219 rfl rfl (by decide) dL_act_352 (fun hz5 => ?_)
      refine zr_eq (x2 := (sC (tC S c9 2 b) j 2)) (hw.2.2.2.2.2.2 j (by omega) 2 (by decide)) ?_
      have hz5 : (sC (tC S c9 2 b) j 2) = 0 ∨ (sC (tC S c9 2 b) j 2) = 1 := hz5.imp (fun h => Eq.trans (Eq.symm (hw.2.2.2.2.2.2 j (by omega) 2 (by decide))) h) (fun h => Eq.trans (Eq.symm (hw.2.2.2.2.2.2 j (by omega) 2 (by decide))) h)
      refine zr_if_eq (tgt := 361) X dL_act_355 (by decide) (fun h6 => ?_) (fun h6 => ?_)
      · skip
        refine zr_iinc12 (v := (nI (j + 1))) X (show nI (j) + Int32.ofInt 1 = nI (j + 1) from nI_1 (j)) (by decide) rfl dL_act_361 ?_
        refine zr_goto (tgt := 336) X dL_act_364 (by decide) ?_
        exact ih (j + 1) _ (by omega) (by rw [i2, nsum, if_neg (fun z => absurd (h6.symm.trans z) (by decide)), Nat.add_zero]) (by omega)
      · skip
        refine zr_iinc11 (v := (nI (cnt + 1))) X (show nI (cnt) + Int32.ofInt 1 = nI (cnt + 1) from nI_1 (cnt)) (by decide) rfl dL_act_358 ?_
        refine zr_iinc12 (v := (nI (j + 1))) X (show nI (j) + Int32.ofInt 1 = nI (j + 1) from nI_1 (j)) (by decide) rfl dL_act_361 ?_
        refine zr_goto (tgt := 336) X dL_act_364 (by decide) ?_
        exact ih (j + 1) _ (by omega) (by rw [i2, nsum, if_pos ((by assumption : sC (tC S c9 2 b) j 2 = 0 ∨ sC (tC S c9 2 b) j 2 = 1).resolve_left h6)]) (by omega)
set_option maxRecDepth 20000 in
theorem za307_0 {l : Launch} {D : va_G} {b0 : Nat} {tA : Nat → ClassId} {sa sv : Nat → Nat} {K : zKt} {I : zI} {Qp : zI → Option AV → Prop} {Xp : String → zI → Prop} {p : Program} {e : Env} {s : State} {m : MethodId} {args : Array Value} {below : List Frame} {meth : Method} {c : Code} {x r f g c9 : Nat} {t : Nat → Nat} {er : Int32} {S : zS} {U : List zS} {A : Nat → Nat} {n7 m7 : Nat}
    (X : zX p l e zrm_L_act s m args below meth c RL cL_act 18 (some .int) D b0 tA sa sv) (hnt : ∀ x ∈ c.exceptionTable.toList, False) (hS : zSh K A n7 m7) (hE : zEn x r A n7 m7) (hw : zWd I x t f er S U A n7 m7 S) (hG : zGp S) (hg : g < n7) (hc : c9 < m7) (k1 : ∀ (J : zI) (S2 : zS), zWd J x t f er S2 (qPush S U) A n7 m7 S2 → zGp S2 → zfa I J x r A n7 m7 → Qp J (some (vi 1))) :
    zG p l e zrm_L_act s m args below meth c 18 D b0 tA sa 0 0 (zQ below D b0 tA sa K args s zrm_L_act Qp Xp) K 307 [some (vr (x) 7), some (vr (A (0)) 17), some (vr (r) 16), some (vi ((nI g))), some (vi ((nI c9))), some (vi ((0 : Int32))), none, none, none, none, none, none, none, none, none, none, none, none] [] I := by
  have hA := hS.1
  have hM := hw.2
  have hW := hw.1.2.2.2.1
  have hn6 := hM.1.1
  have hm12 := hM.1.2
  have hgn := hM.ng
  have hcm := hM.nc
  have hlen := hW.len
  have hl0 := hlen g 0
  have hl1 := hlen g 1
  refine zr_aload1 X dL_act_307 ?_
  refine zr_getD (r := A (2)) X zf_L_166 rfl (by decide) (hS.2.1.2.2.1) dL_act_308 ?_
  refine zr_iload4 X dL_act_311 ?_
  refine zr_aaldD (k := 21) (n := c9) (r := A (40 + c9)) X rfl (show _ < 12 from (by first | decide | omega)) (hS.2.2.2.1 c9 (by omega)) dL_act_313 ?_
  refine zr_aload2 X dL_act_314 ?_
  refine zr_iconst (v := (3 : Int32)) X dL_act_315 (by decide) ?_
  refine zr_callVQ (rm9 := zrm_X11_below) (As := [vi ((3 : Int32))]) (st := [vr (A (40 + c9)) 8]) X zm_L_118 rfl rfl ⟨by decide, Nat.le_of_ble_eq_true rfl⟩ ⟨by decide, by decide⟩ (Nat.le_of_ble_eq_true rfl) dL_act_316 ?_
  refine zw_X11_below (b := 3) hE hw (by omega) (by omega) (fun J5 v1 hv2 hw6 hf7 => ?_)
  refine zr_nif_ne X (v1) (tgt := 326) (by omega) dL_act_319 (by decide) (fun h3 => ?_) (fun h3 => ?_)
  · skip
    refine zr_iconst (v := (0 : Int32)) X dL_act_326 (by decide) ?_
    refine zr_putI X zf_L_219 rfl (Or.inr (by first | decide | assumption | (simp; done))) dL_act_327 ?_
    have hM_1 : zSt _ A n7 m7 (tC S c9 2 (0 : Int32)) := zSt_C hA hw6.2 (show c9 < m7 by omega) (j := 2) (v := (0 : Int32)) (by decide)
    refine zr_iconst (v := (0 : Int32)) X dL_act_330 (by decide) ?_
    refine zr_istore11 X (by decide) rfl dL_act_331 ?_
    refine zr_iconst (v := (0 : Int32)) X dL_act_333 (by decide) ?_
    refine zr_istore12 X (by decide) rfl dL_act_334 ?_
    obtain ⟨hw8, hf9⟩ := zWd.stn (J := (zput J5 (A (40 + c9)) 2 ((0 : Int32)))) hE hw6 (zgA.put zgA.rf (by unfold zvd; omega)) hM_1
    refine zr_forget (lv2 := [some (vr (x) 7), some (vr (A (0)) 17), some (vr (r) 16), some (vi ((nI g))), some (vi ((nI c9))), none, none, none, none, none, none, some (vi ((0 : Int32))), some (vi ((0 : Int32))), none, none, none, none, none]) (fun j9 v9 h9 => by rcases j9 with _ | _ | _ | _ | _ | _ | _ | _ | _ | _ | _ | _ | _ | _ | j9 <;> first | exact h9 | (simp at h9; done) | (simp at h9)) ?_
    exact zl336_L_act (b := (0 : Int32)) X hnt hS hE hw8 hG (by first | exact Or.inl rfl | exact Or.inr rfl) hg hc (fun J S2 h1 h2 h3 => k1 J S2 h1 h2 (zfa.tr (zfa.tr hf7 hf9) h3)) (m7 + 1) 0 0 (by omega) rfl (by omega)
  · skip
    refine zr_iconst (v := (1 : Int32)) X dL_act_322 (by decide) ?_
    refine zr_goto (tgt := 327) X dL_act_323 (by decide) ?_
    refine zr_putI X zf_L_219 rfl (Or.inr (by first | decide | assumption | (simp; done))) dL_act_327 ?_
    have hM_2 : zSt _ A n7 m7 (tC S c9 2 (1 : Int32)) := zSt_C hA hw6.2 (show c9 < m7 by omega) (j := 2) (v := (1 : Int32)) (by decide)
    refine zr_iconst (v := (0 : Int32)) X dL_act_330 (by decide) ?_
    refine zr_istore11 X (by decide) rfl dL_act_331 ?_
    refine zr_iconst (v := (0 : Int32)) X dL_act_333 (by decide) ?_
    refine zr_istore12 X (by decide) rfl dL_act_334 ?_
    obtain ⟨hw10, hf11⟩ := zWd.stn (J := (zput J5 (A (40 + c9)) 2 ((1 : Int32)))) hE hw6 (zgA.put zgA.rf (by unfold zvd; omega)) hM_2
    refine zr_forget (lv2 := [some (vr (x) 7), some (vr (A (0)) 17), some (vr (r) 16), some (vi ((nI g))), some (vi ((nI c9))), none, none, none, none, none, none, some (vi ((0 : Int32))), some (vi ((0 : Int32))), none, none, none, none, none]) (fun j9 v9 h9 => by rcases j9 with _ | _ | _ | _ | _ | _ | _ | _ | _ | _ | _ | _ | _ | _ | j9 <;> first | exact h9 | (simp at h9; done) | (simp at h9)) ?_
    exact zl336_L_act (b := (1 : Int32)) X hnt hS hE hw10 hG (by first | exact Or.inl rfl | exact Or.inr rfl) hg hc (fun J S2 h1 h2 h3 => k1 J S2 h1 h2 (zfa.tr (zfa.tr hf7 hf11) h3)) (m7 + 1) 0 0 (by omega) rfl (by omega)
set_option maxRecDepth 20000 in
theorem za307_1 {l : Launch} {D : va_G} {b0 : Nat} {tA : Nat → ClassId} {sa sv : Nat → Nat} {K : zKt} {I : zI} {Qp : zI → Option AV → Prop} {Xp : String → zI → Prop} {p : Program} {e : Env} {s : State} {m : MethodId} {args : Array Value} {below : List Frame} {meth : Method} {c : Code} {x r f g c9 : Nat} {t : Nat → Nat} {er : Int32} {S : zS} {U : List zS} {A : Nat → Nat} {n7 m7 : Nat}
    (X : zX p l e zrm_L_act s m args below meth c RL cL_act 18 (some .int) D b0 tA sa sv) (hnt : ∀ x ∈ c.exceptionTable.toList, False) (hS : zSh K A n7 m7) (hE : zEn x r A n7 m7) (hw : zWd I x t f er S U A n7 m7 S) (hG : zGp S) (hg : g < n7) (hc : c9 < m7) (k1 : ∀ (J : zI) (S2 : zS), zWd J x t f er S2 (qPush S U) A n7 m7 S2 → zGp S2 → zfa I J x r A n7 m7 → Qp J (some (vi 1))) :
    zG p l e zrm_L_act s m args below meth c 18 D b0 tA sa 0 0 (zQ below D b0 tA sa K args s zrm_L_act Qp Xp) K 307 [some (vr (x) 7), some (vr (A (0)) 17), some (vr (r) 16), some (vi ((nI g))), some (vi ((nI c9))), some (vi ((1 : Int32))), none, none, none, none, none, none, none, none, none, none, none, none] [] I := by
  have hA := hS.1
  have hM := hw.2
  have hW := hw.1.2.2.2.1
  have hn6 := hM.1.1
  have hm12 := hM.1.2
  have hgn := hM.ng
  have hcm := hM.nc
  have hlen := hW.len
  have hl0 := hlen g 0
  have hl1 := hlen g 1
  refine zr_aload1 X dL_act_307 ?_
  refine zr_getD (r := A (2)) X zf_L_166 rfl (by decide) (hS.2.1.2.2.1) dL_act_308 ?_
  refine zr_iload4 X dL_act_311 ?_
  refine zr_aaldD (k := 21) (n := c9) (r := A (40 + c9)) X rfl (show _ < 12 from (by first | decide | omega)) (hS.2.2.2.1 c9 (by omega)) dL_act_313 ?_
  refine zr_aload2 X dL_act_314 ?_
  refine zr_iconst (v := (3 : Int32)) X dL_act_315 (by decide) ?_
  refine zr_callVQ (rm9 := zrm_X11_below) (As := [vi ((3 : Int32))]) (st := [vr (A (40 + c9)) 8]) X zm_L_118 rfl rfl ⟨by decide, Nat.le_of_ble_eq_true rfl⟩ ⟨by decide, by decide⟩ (Nat.le_of_ble_eq_true rfl) dL_act_316 ?_
  refine zw_X11_below (b := 3) hE hw (by omega) (by omega) (fun J12 v1 hv2 hw13 hf14 => ?_)
  refine zr_nif_ne X (v1) (tgt := 326) (by omega) dL_act_319 (by decide) (fun h3 => ?_) (fun h3 => ?_)
  · skip
    refine zr_iconst (v := (0 : Int32)) X dL_act_326 (by decide) ?_
    refine zr_putI X zf_L_219 rfl (Or.inr (by first | decide | assumption | (simp; done))) dL_act_327 ?_
    have hM_1 : zSt _ A n7 m7 (tC S c9 2 (0 : Int32)) := zSt_C hA hw13.2 (show c9 < m7 by omega) (j := 2) (v := (0 : Int32)) (by decide)
    refine zr_iconst (v := (0 : Int32)) X dL_act_330 (by decide) ?_
    refine zr_istore11 X (by decide) rfl dL_act_331 ?_
    refine zr_iconst (v := (0 : Int32)) X dL_act_333 (by decide) ?_
    refine zr_istore12 X (by decide) rfl dL_act_334 ?_
    obtain ⟨hw15, hf16⟩ := zWd.stn (J := (zput J12 (A (40 + c9)) 2 ((0 : Int32)))) hE hw13 (zgA.put zgA.rf (by unfold zvd; omega)) hM_1
    refine zr_forget (lv2 := [some (vr (x) 7), some (vr (A (0)) 17), some (vr (r) 16), some (vi ((nI g))), some (vi ((nI c9))), none, none, none, none, none, none, some (vi ((0 : Int32))), some (vi ((0 : Int32))), none, none, none, none, none]) (fun j9 v9 h9 => by rcases j9 with _ | _ | _ | _ | _ | _ | _ | _ | _ | _ | _ | _ | _ | _ | j9 <;> first | exact h9 | (simp at h9; done) | (simp at h9)) ?_
    exact zl336_L_act (b := (0 : Int32)) X hnt hS hE hw15 hG (by first | exact Or.inl rfl | exact Or.inr rfl) hg hc (fun J S2 h1 h2 h3 => k1 J S2 h1 h2 (zfa.tr (zfa.tr hf14 hf16) h3)) (m7 + 1) 0 0 (by omega) rfl (by omega)
  · skip
    refine zr_iconst (v := (1 : Int32)) X dL_act_322 (by decide) ?_
    refine zr_goto (tgt := 327) X dL_act_323 (by decide) ?_
    refine zr_putI X zf_L_219 rfl (Or.inr (by first | decide | assumption | (simp; done))) dL_act_327 ?_
    have hM_2 : zSt _ A n7 m7 (tC S c9 2 (1 : Int32)) := zSt_C hA hw13.2 (show c9 < m7 by omega) (j := 2) (v := (1 : Int32)) (by decide)
    refine zr_iconst (v := (0 : Int32)) X dL_act_330 (by decide) ?_
    refine zr_istore11 X (by decide) rfl dL_act_331 ?_
    refine zr_iconst (v := (0 : Int32)) X dL_act_333 (by decide) ?_
    refine zr_istore12 X (by decide) rfl dL_act_334 ?_
    obtain ⟨hw17, hf18⟩ := zWd.stn (J := (zput J12 (A (40 + c9)) 2 ((1 : Int32)))) hE hw13 (zgA.put zgA.rf (by unfold zvd; omega)) hM_2
    refine zr_forget (lv2 := [some (vr (x) 7), some (vr (A (0)) 17), some (vr (r) 16), some (vi ((nI g))), some (vi ((nI c9))), none, none, none, none, none, none, some (vi ((0 : Int32))), some (vi ((0 : Int32))), none, none, none, none, none]) (fun j9 v9 h9 => by rcases j9 with _ | _ | _ | _ | _ | _ | _ | _ | _ | _ | _ | _ | _ | _ | j9 <;> first | exact h9 | (simp at h9; done) | (simp at h9)) ?_
    exact zl336_L_act (b := (1 : Int32)) X hnt hS hE hw17 hG (by first | exact Or.inl rfl | exact Or.inr rfl) hg hc (fun J S2 h1 h2 h3 => k1 J S2 h1 h2 (zfa.tr (zfa.tr hf14 hf18) h3)) (m7 + 1) 0 0 (by omega) rfl (by omega)
set_option maxRecDepth 20000 in
theorem za394_0 {l : Launch} {D : va_G} {b0 : Nat} {tA : Nat → ClassId} {sa sv : Nat → Nat} {K : zKt} {I : zI} {Qp : zI → Option AV → Prop} {Xp : String → zI → Prop} {p : Program} {e : Env} {s : State} {m : MethodId} {args : Array Value} {below : List Frame} {meth : Method} {c : Code} {x r f g c9 : Nat} {t : Nat → Nat} {er : Int32} {S : zS} {U : List zS} {A : Nat → Nat} {n7 m7 : Nat}
    (X : zX p l e zrm_L_act s m args below meth c RL cL_act 18 (some .int) D b0 tA sa sv) (hnt : ∀ x ∈ c.exceptionTable.toList, False) (hS : zSh K A n7 m7) (hE : zEn x r A n7 m7) (hw : zWd I x t f er S U A n7 m7 S) (hG : zGp S) (hg : g < n7) (hc : c9 < m7) (k1 : ∀ (J : zI) (S2 : zS), zWd J x t f er S2 (qPush S U) A n7 m7 S2 → zGp S2 → zfa I J x r A n7 m7 → Qp J (some (vi 1))) (k2 : ∀ J : zI, zWd J x t f er S U A n7 m7 S → zfa I J x r A n7 m7 → Qp J (some (vi 2))) :
    zG p l e zrm_L_act s m args below meth c 18 D b0 tA sa 0 0 (zQ below D b0 tA sa K args s zrm_L_act Qp Xp) K 394 [some (vr (x) 7), some (vr (A (0)) 17), some (vr (r) 16), some (vi ((nI g))), some (vi ((nI c9))), some (vi ((0 : Int32))), none, none, none, none, none, none, none, none, none, none, none, none] [] I := by
  have hA := hS.1
  have hM := hw.2
  have hW := hw.1.2.2.2.1
  have hn6 := hM.1.1
  have hm12 := hM.1.2
  have hgn := hM.ng
  have hcm := hM.nc
  have hlen := hW.len
  have hl0 := hlen g 0
  have hl1 := hlen g 1
  refine zr_iconst (v := (1 : Int32)) X dL_act_394 (by decide) ?_
  refine zr_aload2 X dL_act_395 ?_
  refine zr_aload2 X dL_act_396 ?_
  refine zr_iconst (v := (4 : Int32)) X dL_act_397 (by decide) ?_
  refine zr_callVQ (rm9 := zrm_X11_below) (As := [vi ((4 : Int32))]) (st := [vr (r) 16, vi ((1 : Int32))]) X zm_L_118 rfl rfl ⟨by decide, Nat.le_of_ble_eq_true rfl⟩ ⟨by decide, by decide⟩ (Nat.le_of_ble_eq_true rfl) dL_act_398 ?_
  refine zw_X11_below (b := 4) hE hw (by omega) (by omega) (fun J19 v1 hv2 hw20 hf21 => ?_)
  refine zr_nif_ne X (v1) (tgt := 409) (by omega) dL_act_401 (by decide) (fun h3 => ?_) (fun h3 => ?_)
  · skip
    refine zr_iconst (v := (5 : Int32)) X dL_act_409 (by decide) ?_
    refine zr_callVQ (rm9 := zrm_X11_below) (As := [vi ((5 : Int32))]) (st := [vi ((1 : Int32))]) X zm_L_118 rfl rfl ⟨by decide, Nat.le_of_ble_eq_true rfl⟩ ⟨by decide, by decide⟩ (Nat.le_of_ble_eq_true rfl) dL_act_410 ?_
    refine zw_X11_below (b := 5) hE hw20 (by omega) (by omega) (fun J22 v4 hv5 hw23 hf24 => ?_)
    refine zr_iadd X dL_act_413 ?_
    refine zr_eq (x2 := (nI (1 + v4))) (nI_add (1) (v4)) ?_
    refine zr_istore12 X (by decide) rfl dL_act_414 ?_
    refine zr_aload1 X dL_act_416 ?_
    refine zr_getD (r := A (2)) X zf_L_166 rfl (by decide) (hS.2.1.2.2.1) dL_act_417 ?_
    refine zr_iload4 X dL_act_420 ?_
    refine zr_aaldD (k := 21) (n := c9) (r := A (40 + c9)) X rfl (show _ < 12 from (by first | decide | omega)) (hS.2.2.2.1 c9 (by omega)) dL_act_422 ?_
    refine zr_getI X zf_L_175 rfl dL_act_423 ?_
    refine zr_eq (x2 := (sC S c9 0)) (hw23.2.2.2.2.2.2 c9 (by omega) 0 (by decide)) ?_
    refine zr_iload12 X dL_act_426 ?_
    refine zr_iadd X dL_act_428 ?_
    refine zr_bipush (v := (99 : Int32)) X dL_act_429 (by decide) ?_
    refine zr_icmp_le (tgt := 453) X dL_act_431 (by decide) (fun h6 => ?_) (fun h6 => ?_)
    · skip
      refine zr_aload1 X dL_act_453 ?_
      refine zr_getD (r := A (2)) X zf_L_166 rfl (by decide) (hS.2.1.2.2.1) dL_act_454 ?_
      refine zr_iload4 X dL_act_457 ?_
      refine zr_aaldD (k := 21) (n := c9) (r := A (40 + c9)) X rfl (show _ < 12 from (by first | decide | omega)) (hS.2.2.2.1 c9 (by omega)) dL_act_459 ?_
      refine zr_dupR X dL_act_460 ?_
      refine zr_getI X zf_L_175 rfl dL_act_461 ?_
      refine zr_eq (x2 := (sC S c9 0)) (hw23.2.2.2.2.2.2 c9 (by omega) 0 (by decide)) ?_
      refine zr_iload12 X dL_act_464 ?_
      refine zr_iadd X dL_act_466 ?_
      refine zr_putI X zf_L_175 rfl (Or.inl rfl) dL_act_467 ?_
      have hM_1 : zSt _ A n7 m7 (tC S c9 0 ((sC S c9 0) + (nI (1 + v4)))) := zSt_C hA hw23.2 (show c9 < m7 by omega) (j := 0) (v := ((sC S c9 0) + (nI (1 + v4)))) (by decide)
      refine zr_aload0 X dL_act_470 ?_
      refine zr_iload4 X dL_act_471 ?_
      refine zr_iload12 X dL_act_473 ?_
      refine zr_callSX (rm9 := zrm_L_charge) (As := [vr (x) 7, vi ((nI c9)), vi ((nI (1 + v4)))]) (st := []) X zmh_L_225 rfl rfl ⟨by decide, Nat.le_of_ble_eq_true rfl⟩ ⟨by decide, by decide⟩ (Nat.le_of_ble_eq_true rfl) dL_act_475 ?_
      obtain ⟨hw25, hf26⟩ := zWd.stn (J := (zput J22 (A (40 + c9)) 0 (((sC S c9 0) + (nI (1 + v4)))))) hE hw23 (zgA.put zgA.rf (by unfold zvd; omega)) hM_1
      have hR7 : rCharge S (nI c9) (nI (1 + v4)) = (0, (sC S c9 0 + nI (1 + v4))) ∧ sCharge S (nI c9) (nI (1 + v4)) = tC S c9 0 (sC S c9 0 + nI (1 + v4)) := zR_charge (by omega) (by omega) (by omega) (by omega) (Int32.not_lt.mpr h6)
      refine zL_charge hw25.1 (fun J27 hJ28 => ?_)
      rw [zif_0 hR7.1, zif_0 hR7.1, hR7.2] at hJ28
      obtain ⟨hw29, hf30⟩ := zWd.cls hE hw25 hJ28
      refine zr_eq (x2 := (sC S c9 0 + nI (1 + v4))) (zcd_0 hR7.1) ?_
      refine zr_aload1 X dL_act_478 ?_
      refine zr_getD (r := A (2)) X zf_L_166 rfl (by decide) (hS.2.1.2.2.1) dL_act_479 ?_
      refine zr_iload4 X dL_act_482 ?_
      refine zr_aaldD (k := 21) (n := c9) (r := A (40 + c9)) X rfl (show _ < 12 from (by first | decide | omega)) (hS.2.2.2.1 c9 (by omega)) dL_act_484 ?_
      refine zr_getI X zf_L_175 rfl dL_act_485 ?_
      refine zr_eq (x2 := (sC (tC S c9 0 ((sC S c9 0) + (nI (1 + v4)))) c9 0)) (hw29.2.2.2.2.2.2 c9 (by omega) 0 (by decide)) ?_
      refine zr_eq (x2 := ((sC S c9 0) + (nI (1 + v4)))) (zu2_eq) ?_
      refine zr_icmp_ne (tgt := 495) X dL_act_488 (by decide) (fun h8 => ?_) (fun h8 => ?_)
      · exact absurd rfl h8
      · skip
        refine zr_iconst (v := (1 : Int32)) X dL_act_491 (by decide) ?_
        refine zr_goto (tgt := 496) X dL_act_492 (by decide) ?_
        refine zr_iret X (by decide) (by decide) dL_act_496 ?_
        exact k1 _ _ hw29 (hG.kp zKp.c) (zfa.tr (zfa.tr (zfa.tr hf21 hf24) hf26) hf30)
    · skip
      refine zr_aload0 X dL_act_434 ?_
      refine zr_iload4 X dL_act_435 ?_
      refine zr_iload12 X dL_act_437 ?_
      refine zr_callSX (rm9 := zrm_L_charge) (As := [vr (x) 7, vi ((nI c9)), vi ((nI (1 + v4)))]) (st := []) X zmh_L_225 rfl rfl ⟨by decide, Nat.le_of_ble_eq_true rfl⟩ ⟨by decide, by decide⟩ (Nat.le_of_ble_eq_true rfl) dL_act_439 ?_
      have hR9 : rCharge S (nI c9) (nI (1 + v4)) = (3, 0) := zR_chargeN (by omega) (by omega) (by omega) (by omega) (Int32.not_le.mp h6)
      refine zL_charge hw23.1 (fun J31 hJ32 => ?_)
      rw [zif_n hR9, zif_n hR9] at hJ32
      obtain ⟨hw33, hf34⟩ := zWd.cls hE hw23 hJ32
      refine zr_eq (x2 := (-2000000099 : Int32)) ((zcd_n hR9).trans rfl) ?_
      refine zr_ldc (v := -2000000099) X dL_act_442 zk_L_98 ?_
      refine zr_icmp_ne (tgt := 451) X dL_act_444 (by decide) (fun h => absurd h (by decide)) (fun _ => ?_)
      refine zr_iconst (v := (2 : Int32)) X dL_act_447 (by decide) ?_
      refine zr_goto (tgt := 452) X dL_act_448 (by decide) ?_
      refine zr_iret X (by decide) (by decide) dL_act_452 ?_
      exact k2 _ hw33 (zfa.tr (zfa.tr hf21 hf24) hf34)
  · skip
    refine zr_bipush (v := (99 : Int32)) X dL_act_404 (by decide) ?_
    refine zr_goto (tgt := 410) X dL_act_406 (by decide) ?_
    refine zr_callVQ (rm9 := zrm_X11_below) (As := [vi ((99 : Int32))]) (st := [vi ((1 : Int32))]) X zm_L_118 rfl rfl ⟨by decide, Nat.le_of_ble_eq_true rfl⟩ ⟨by decide, by decide⟩ (Nat.le_of_ble_eq_true rfl) dL_act_410 ?_
    refine zw_X11_below (b := 99) hE hw20 (by omega) (by omega) (fun J35 v10 hv11 hw36 hf37 => ?_)
    refine zr_iadd X dL_act_413 ?_
    refine zr_eq (x2 := (nI (1 + v10))) (nI_add (1) (v10)) ?_
    refine zr_istore12 X (by decide) rfl dL_act_414 ?_
    refine zr_aload1 X dL_act_416 ?_
    refine zr_getD (r := A (2)) X zf_L_166 rfl (by decide) (hS.2.1.2.2.1) dL_act_417 ?_
    refine zr_iload4 X dL_act_420 ?_
    refine zr_aaldD (k := 21) (n := c9) (r := A (40 + c9)) X rfl (show _ < 12 from (by first | decide | omega)) (hS.2.2.2.1 c9 (by omega)) dL_act_422 ?_
    refine zr_getI X zf_L_175 rfl dL_act_423 ?_
    refine zr_eq (x2 := (sC S c9 0)) (hw36.2.2.2.2.2.2 c9 (by omega) 0 (by decide)) ?_
    refine zr_iload12 X dL_act_426 ?_
    refine zr_iadd X dL_act_428 ?_
    refine zr_bipush (v := (99 : Int32)) X dL_act_429 (by decide) ?_
    refine zr_icmp_le (tgt := 453) X dL_act_431 (by decide) (fun h12 => ?_) (fun h12 => ?_)
    · skip
      refine zr_aload1 X dL_act_453 ?_
      refine zr_getD (r := A (2)) X zf_L_166 rfl (by decide) (hS.2.1.2.2.1) dL_act_454 ?_
      refine zr_iload4 X dL_act_457 ?_
      refine zr_aaldD (k := 21) (n := c9) (r := A (40 + c9)) X rfl (show _ < 12 from (by first | decide | omega)) (hS.2.2.2.1 c9 (by omega)) dL_act_459 ?_
      refine zr_dupR X dL_act_460 ?_
      refine zr_getI X zf_L_175 rfl dL_act_461 ?_
      refine zr_eq (x2 := (sC S c9 0)) (hw36.2.2.2.2.2.2 c9 (by omega) 0 (by decide)) ?_
      refine zr_iload12 X dL_act_464 ?_
      refine zr_iadd X dL_act_466 ?_
      refine zr_putI X zf_L_175 rfl (Or.inl rfl) dL_act_467 ?_
      have hM_2 : zSt _ A n7 m7 (tC S c9 0 ((sC S c9 0) + (nI (1 + v10)))) := zSt_C hA hw36.2 (show c9 < m7 by omega) (j := 0) (v := ((sC S c9 0) + (nI (1 + v10)))) (by decide)
      refine zr_aload0 X dL_act_470 ?_
      refine zr_iload4 X dL_act_471 ?_
      refine zr_iload12 X dL_act_473 ?_
      refine zr_callSX (rm9 := zrm_L_charge) (As := [vr (x) 7, vi ((nI c9)), vi ((nI (1 + v10)))]) (st := []) X zmh_L_225 rfl rfl ⟨by decide, Nat.le_of_ble_eq_true rfl⟩ ⟨by decide, by decide⟩ (Nat.le_of_ble_eq_true rfl) dL_act_475 ?_
      obtain ⟨hw38, hf39⟩ := zWd.stn (J := (zput J35 (A (40 + c9)) 0 (((sC S c9 0) + (nI (1 + v10)))))) hE hw36 (zgA.put zgA.rf (by unfold zvd; omega)) hM_2
      have hR13 : rCharge S (nI c9) (nI (1 + v10)) = (0, (sC S c9 0 + nI (1 + v10))) ∧ sCharge S (nI c9) (nI (1 + v10)) = tC S c9 0 (sC S c9 0 + nI (1 + v10)) := zR_charge (by omega) (by omega) (by omega) (by omega) (Int32.not_lt.mpr h12)
      refine zL_charge hw38.1 (fun J40 hJ41 => ?_)
      rw [zif_0 hR13.1, zif_0 hR13.1, hR13.2] at hJ41
      obtain ⟨hw42, hf43⟩ := zWd.cls hE hw38 hJ41
      refine zr_eq (x2 := (sC S c9 0 + nI (1 + v10))) (zcd_0 hR13.1) ?_
      refine zr_aload1 X dL_act_478 ?_
      refine zr_getD (r := A (2)) X zf_L_166 rfl (by decide) (hS.2.1.2.2.1) dL_act_479 ?_
      refine zr_iload4 X dL_act_482 ?_
      refine zr_aaldD (k := 21) (n := c9) (r := A (40 + c9)) X rfl (show _ < 12 from (by first | decide | omega)) (hS.2.2.2.1 c9 (by omega)) dL_act_484 ?_
      refine zr_getI X zf_L_175 rfl dL_act_485 ?_
      refine zr_eq (x2 := (sC (tC S c9 0 ((sC S c9 0) + (nI (1 + v10)))) c9 0)) (hw42.2.2.2.2.2.2 c9 (by omega) 0 (by decide)) ?_
      refine zr_eq (x2 := ((sC S c9 0) + (nI (1 + v10)))) (zu2_eq) ?_
      refine zr_icmp_ne (tgt := 495) X dL_act_488 (by decide) (fun h14 => ?_) (fun h14 => ?_)
      · exact absurd rfl h14
      · skip
        refine zr_iconst (v := (1 : Int32)) X dL_act_491 (by decide) ?_
        refine zr_goto (tgt := 496) X dL_act_492 (by decide) ?_
        refine zr_iret X (by decide) (by decide) dL_act_496 ?_
        exact k1 _ _ hw42 (hG.kp zKp.c) (zfa.tr (zfa.tr (zfa.tr hf21 hf37) hf39) hf43)
    · skip
      refine zr_aload0 X dL_act_434 ?_
      refine zr_iload4 X dL_act_435 ?_
      refine zr_iload12 X dL_act_437 ?_
      refine zr_callSX (rm9 := zrm_L_charge) (As := [vr (x) 7, vi ((nI c9)), vi ((nI (1 + v10)))]) (st := []) X zmh_L_225 rfl rfl ⟨by decide, Nat.le_of_ble_eq_true rfl⟩ ⟨by decide, by decide⟩ (Nat.le_of_ble_eq_true rfl) dL_act_439 ?_
      have hR15 : rCharge S (nI c9) (nI (1 + v10)) = (3, 0) := zR_chargeN (by omega) (by omega) (by omega) (by omega) (Int32.not_le.mp h12)
      refine zL_charge hw36.1 (fun J44 hJ45 => ?_)
      rw [zif_n hR15, zif_n hR15] at hJ45
      obtain ⟨hw46, hf47⟩ := zWd.cls hE hw36 hJ45
      refine zr_eq (x2 := (-2000000099 : Int32)) ((zcd_n hR15).trans rfl) ?_
      refine zr_ldc (v := -2000000099) X dL_act_442 zk_L_98 ?_
      refine zr_icmp_ne (tgt := 451) X dL_act_444 (by decide) (fun h => absurd h (by decide)) (fun _ => ?_)
      refine zr_iconst (v := (2 : Int32)) X dL_act_447 (by decide) ?_
      refine zr_goto (tgt := 452) X dL_act_448 (by decide) ?_
      refine zr_iret X (by decide) (by decide) dL_act_452 ?_
      exact k2 _ hw46 (zfa.tr (zfa.tr hf21 hf37) hf47)
set_option maxRecDepth 20000 in
theorem za394_1 {l : Launch} {D : va_G} {b0 : Nat} {tA : Nat → ClassId} {sa sv : Nat → Nat} {K : zKt} {I : zI} {Qp : zI → Option AV → Prop} {Xp : String → zI → Prop} {p : Program} {e : Env} {s : State} {m : MethodId} {args : Array Value} {below : List Frame} {meth : Method} {c : Code} {x r f g c9 : Nat} {t : Nat → Nat} {er : Int32} {S : zS} {U : List zS} {A : Nat → Nat} {n7 m7 : Nat}
    (X : zX p l e zrm_L_act s m args below meth c RL cL_act 18 (some .int) D b0 tA sa sv) (hnt : ∀ x ∈ c.exceptionTable.toList, False) (hS : zSh K A n7 m7) (hE : zEn x r A n7 m7) (hw : zWd I x t f er S U A n7 m7 S) (hG : zGp S) (hg : g < n7) (hc : c9 < m7) (k1 : ∀ (J : zI) (S2 : zS), zWd J x t f er S2 (qPush S U) A n7 m7 S2 → zGp S2 → zfa I J x r A n7 m7 → Qp J (some (vi 1))) (k2 : ∀ J : zI, zWd J x t f er S U A n7 m7 S → zfa I J x r A n7 m7 → Qp J (some (vi 2))) :
    zG p l e zrm_L_act s m args below meth c 18 D b0 tA sa 0 0 (zQ below D b0 tA sa K args s zrm_L_act Qp Xp) K 394 [some (vr (x) 7), some (vr (A (0)) 17), some (vr (r) 16), some (vi ((nI g))), some (vi ((nI c9))), some (vi ((1 : Int32))), none, none, none, none, none, none, none, none, none, none, none, none] [] I := by
  have hA := hS.1
  have hM := hw.2
  have hW := hw.1.2.2.2.1
  have hn6 := hM.1.1
  have hm12 := hM.1.2
  have hgn := hM.ng
  have hcm := hM.nc
  have hlen := hW.len
  have hl0 := hlen g 0
  have hl1 := hlen g 1
  refine zr_iconst (v := (1 : Int32)) X dL_act_394 (by decide) ?_
  refine zr_aload2 X dL_act_395 ?_
  refine zr_aload2 X dL_act_396 ?_
  refine zr_iconst (v := (4 : Int32)) X dL_act_397 (by decide) ?_
  refine zr_callVQ (rm9 := zrm_X11_below) (As := [vi ((4 : Int32))]) (st := [vr (r) 16, vi ((1 : Int32))]) X zm_L_118 rfl rfl ⟨by decide, Nat.le_of_ble_eq_true rfl⟩ ⟨by decide, by decide⟩ (Nat.le_of_ble_eq_true rfl) dL_act_398 ?_
  refine zw_X11_below (b := 4) hE hw (by omega) (by omega) (fun J48 v1 hv2 hw49 hf50 => ?_)
  refine zr_nif_ne X (v1) (tgt := 409) (by omega) dL_act_401 (by decide) (fun h3 => ?_) (fun h3 => ?_)
  · skip
    refine zr_iconst (v := (5 : Int32)) X dL_act_409 (by decide) ?_
    refine zr_callVQ (rm9 := zrm_X11_below) (As := [vi ((5 : Int32))]) (st := [vi ((1 : Int32))]) X zm_L_118 rfl rfl ⟨by decide, Nat.le_of_ble_eq_true rfl⟩ ⟨by decide, by decide⟩ (Nat.le_of_ble_eq_true rfl) dL_act_410 ?_
    refine zw_X11_below (b := 5) hE hw49 (by omega) (by omega) (fun J51 v4 hv5 hw52 hf53 => ?_)
    refine zr_iadd X dL_act_413 ?_
    refine zr_eq (x2 := (nI (1 + v4))) (nI_add (1) (v4)) ?_
    refine zr_istore12 X (by decide) rfl dL_act_414 ?_
    refine zr_aload1 X dL_act_416 ?_
    refine zr_getD (r := A (2)) X zf_L_166 rfl (by decide) (hS.2.1.2.2.1) dL_act_417 ?_
    refine zr_iload4 X dL_act_420 ?_
    refine zr_aaldD (k := 21) (n := c9) (r := A (40 + c9)) X rfl (show _ < 12 from (by first | decide | omega)) (hS.2.2.2.1 c9 (by omega)) dL_act_422 ?_
    refine zr_getI X zf_L_175 rfl dL_act_423 ?_
    refine zr_eq (x2 := (sC S c9 0)) (hw52.2.2.2.2.2.2 c9 (by omega) 0 (by decide)) ?_
    refine zr_iload12 X dL_act_426 ?_
    refine zr_iadd X dL_act_428 ?_
    refine zr_bipush (v := (99 : Int32)) X dL_act_429 (by decide) ?_
    refine zr_icmp_le (tgt := 453) X dL_act_431 (by decide) (fun h6 => ?_) (fun h6 => ?_)
    · skip
      refine zr_aload1 X dL_act_453 ?_
      refine zr_getD (r := A (2)) X zf_L_166 rfl (by decide) (hS.2.1.2.2.1) dL_act_454 ?_
      refine zr_iload4 X dL_act_457 ?_
      refine zr_aaldD (k := 21) (n := c9) (r := A (40 + c9)) X rfl (show _ < 12 from (by first | decide | omega)) (hS.2.2.2.1 c9 (by omega)) dL_act_459 ?_
      refine zr_dupR X dL_act_460 ?_
      refine zr_getI X zf_L_175 rfl dL_act_461 ?_
      refine zr_eq (x2 := (sC S c9 0)) (hw52.2.2.2.2.2.2 c9 (by omega) 0 (by decide)) ?_
      refine zr_iload12 X dL_act_464 ?_
      refine zr_iadd X dL_act_466 ?_
      refine zr_putI X zf_L_175 rfl (Or.inl rfl) dL_act_467 ?_
      have hM_1 : zSt _ A n7 m7 (tC S c9 0 ((sC S c9 0) + (nI (1 + v4)))) := zSt_C hA hw52.2 (show c9 < m7 by omega) (j := 0) (v := ((sC S c9 0) + (nI (1 + v4)))) (by decide)
      refine zr_aload0 X dL_act_470 ?_
      refine zr_iload4 X dL_act_471 ?_
      refine zr_iload12 X dL_act_473 ?_
      refine zr_callSX (rm9 := zrm_L_charge) (As := [vr (x) 7, vi ((nI c9)), vi ((nI (1 + v4)))]) (st := []) X zmh_L_225 rfl rfl ⟨by decide, Nat.le_of_ble_eq_true rfl⟩ ⟨by decide, by decide⟩ (Nat.le_of_ble_eq_true rfl) dL_act_475 ?_
      obtain ⟨hw54, hf55⟩ := zWd.stn (J := (zput J51 (A (40 + c9)) 0 (((sC S c9 0) + (nI (1 + v4)))))) hE hw52 (zgA.put zgA.rf (by unfold zvd; omega)) hM_1
      have hR7 : rCharge S (nI c9) (nI (1 + v4)) = (0, (sC S c9 0 + nI (1 + v4))) ∧ sCharge S (nI c9) (nI (1 + v4)) = tC S c9 0 (sC S c9 0 + nI (1 + v4)) := zR_charge (by omega) (by omega) (by omega) (by omega) (Int32.not_lt.mpr h6)
      refine zL_charge hw54.1 (fun J56 hJ57 => ?_)
      rw [zif_0 hR7.1, zif_0 hR7.1, hR7.2] at hJ57
      obtain ⟨hw58, hf59⟩ := zWd.cls hE hw54 hJ57
      refine zr_eq (x2 := (sC S c9 0 + nI (1 + v4))) (zcd_0 hR7.1) ?_
      refine zr_aload1 X dL_act_478 ?_
      refine zr_getD (r := A (2)) X zf_L_166 rfl (by decide) (hS.2.1.2.2.1) dL_act_479 ?_
      refine zr_iload4 X dL_act_482 ?_
      refine zr_aaldD (k := 21) (n := c9) (r := A (40 + c9)) X rfl (show _ < 12 from (by first | decide | omega)) (hS.2.2.2.1 c9 (by omega)) dL_act_484 ?_
      refine zr_getI X zf_L_175 rfl dL_act_485 ?_
      refine zr_eq (x2 := (sC (tC S c9 0 ((sC S c9 0) + (nI (1 + v4)))) c9 0)) (hw58.2.2.2.2.2.2 c9 (by omega) 0 (by decide)) ?_
      refine zr_eq (x2 := ((sC S c9 0) + (nI (1 + v4)))) (zu2_eq) ?_
      refine zr_icmp_ne (tgt := 495) X dL_act_488 (by decide) (fun h8 => ?_) (fun h8 => ?_)
      · exact absurd rfl h8
      · skip
        refine zr_iconst (v := (1 : Int32)) X dL_act_491 (by decide) ?_
        refine zr_goto (tgt := 496) X dL_act_492 (by decide) ?_
        refine zr_iret X (by decide) (by decide) dL_act_496 ?_
        exact k1 _ _ hw58 (hG.kp zKp.c) (zfa.tr (zfa.tr (zfa.tr hf50 hf53) hf55) hf59)
    · skip
      refine zr_aload0 X dL_act_434 ?_
      refine zr_iload4 X dL_act_435 ?_
      refine zr_iload12 X dL_act_437 ?_
      refine zr_callSX (rm9 := zrm_L_charge) (As := [vr (x) 7, vi ((nI c9)), vi ((nI (1 + v4)))]) (st := []) X zmh_L_225 rfl rfl ⟨by decide, Nat.le_of_ble_eq_true rfl⟩ ⟨by decide, by decide⟩ (Nat.le_of_ble_eq_true rfl) dL_act_439 ?_
      have hR9 : rCharge S (nI c9) (nI (1 + v4)) = (3, 0) := zR_chargeN (by omega) (by omega) (by omega) (by omega) (Int32.not_le.mp h6)
      refine zL_charge hw52.1 (fun J60 hJ61 => ?_)
      rw [zif_n hR9, zif_n hR9] at hJ61
      obtain ⟨hw62, hf63⟩ := zWd.cls hE hw52 hJ61
      refine zr_eq (x2 := (-2000000099 : Int32)) ((zcd_n hR9).trans rfl) ?_
      refine zr_ldc (v := -2000000099) X dL_act_442 zk_L_98 ?_
      refine zr_icmp_ne (tgt := 451) X dL_act_444 (by decide) (fun h => absurd h (by decide)) (fun _ => ?_)
      refine zr_iconst (v := (2 : Int32)) X dL_act_447 (by decide) ?_
      refine zr_goto (tgt := 452) X dL_act_448 (by decide) ?_
      refine zr_iret X (by decide) (by decide) dL_act_452 ?_
      exact k2 _ hw62 (zfa.tr (zfa.tr hf50 hf53) hf63)
  · skip
    refine zr_bipush (v := (99 : Int32)) X dL_act_404 (by decide) ?_
    refine zr_goto (tgt := 410) X dL_act_406 (by decide) ?_
    refine zr_callVQ (rm9 := zrm_X11_below) (As := [vi ((99 : Int32))]) (st := [vi ((1 : Int32))]) X zm_L_118 rfl rfl ⟨by decide, Nat.le_of_ble_eq_true rfl⟩ ⟨by decide, by decide⟩ (Nat.le_of_ble_eq_true rfl) dL_act_410 ?_
    refine zw_X11_below (b := 99) hE hw49 (by omega) (by omega) (fun J64 v10 hv11 hw65 hf66 => ?_)
    refine zr_iadd X dL_act_413 ?_
    refine zr_eq (x2 := (nI (1 + v10))) (nI_add (1) (v10)) ?_
    refine zr_istore12 X (by decide) rfl dL_act_414 ?_
    refine zr_aload1 X dL_act_416 ?_
    refine zr_getD (r := A (2)) X zf_L_166 rfl (by decide) (hS.2.1.2.2.1) dL_act_417 ?_
    refine zr_iload4 X dL_act_420 ?_
    refine zr_aaldD (k := 21) (n := c9) (r := A (40 + c9)) X rfl (show _ < 12 from (by first | decide | omega)) (hS.2.2.2.1 c9 (by omega)) dL_act_422 ?_
    refine zr_getI X zf_L_175 rfl dL_act_423 ?_
    refine zr_eq (x2 := (sC S c9 0)) (hw65.2.2.2.2.2.2 c9 (by omega) 0 (by decide)) ?_
    refine zr_iload12 X dL_act_426 ?_
    refine zr_iadd X dL_act_428 ?_
    refine zr_bipush (v := (99 : Int32)) X dL_act_429 (by decide) ?_
    refine zr_icmp_le (tgt := 453) X dL_act_431 (by decide) (fun h12 => ?_) (fun h12 => ?_)
    · skip
      refine zr_aload1 X dL_act_453 ?_
      refine zr_getD (r := A (2)) X zf_L_166 rfl (by decide) (hS.2.1.2.2.1) dL_act_454 ?_
      refine zr_iload4 X dL_act_457 ?_
      refine zr_aaldD (k := 21) (n := c9) (r := A (40 + c9)) X rfl (show _ < 12 from (by first | decide | omega)) (hS.2.2.2.1 c9 (by omega)) dL_act_459 ?_
      refine zr_dupR X dL_act_460 ?_
      refine zr_getI X zf_L_175 rfl dL_act_461 ?_
      refine zr_eq (x2 := (sC S c9 0)) (hw65.2.2.2.2.2.2 c9 (by omega) 0 (by decide)) ?_
      refine zr_iload12 X dL_act_464 ?_
      refine zr_iadd X dL_act_466 ?_
      refine zr_putI X zf_L_175 rfl (Or.inl rfl) dL_act_467 ?_
      have hM_2 : zSt _ A n7 m7 (tC S c9 0 ((sC S c9 0) + (nI (1 + v10)))) := zSt_C hA hw65.2 (show c9 < m7 by omega) (j := 0) (v := ((sC S c9 0) + (nI (1 + v10)))) (by decide)
      refine zr_aload0 X dL_act_470 ?_
      refine zr_iload4 X dL_act_471 ?_
      refine zr_iload12 X dL_act_473 ?_
      refine zr_callSX (rm9 := zrm_L_charge) (As := [vr (x) 7, vi ((nI c9)), vi ((nI (1 + v10)))]) (st := []) X zmh_L_225 rfl rfl ⟨by decide, Nat.le_of_ble_eq_true rfl⟩ ⟨by decide, by decide⟩ (Nat.le_of_ble_eq_true rfl) dL_act_475 ?_
      obtain ⟨hw67, hf68⟩ := zWd.stn (J := (zput J64 (A (40 + c9)) 0 (((sC S c9 0) + (nI (1 + v10)))))) hE hw65 (zgA.put zgA.rf (by unfold zvd; omega)) hM_2
      have hR13 : rCharge S (nI c9) (nI (1 + v10)) = (0, (sC S c9 0 + nI (1 + v10))) ∧ sCharge S (nI c9) (nI (1 + v10)) = tC S c9 0 (sC S c9 0 + nI (1 + v10)) := zR_charge (by omega) (by omega) (by omega) (by omega) (Int32.not_lt.mpr h12)
      refine zL_charge hw67.1 (fun J69 hJ70 => ?_)
      rw [zif_0 hR13.1, zif_0 hR13.1, hR13.2] at hJ70
      obtain ⟨hw71, hf72⟩ := zWd.cls hE hw67 hJ70
      refine zr_eq (x2 := (sC S c9 0 + nI (1 + v10))) (zcd_0 hR13.1) ?_
      refine zr_aload1 X dL_act_478 ?_
      refine zr_getD (r := A (2)) X zf_L_166 rfl (by decide) (hS.2.1.2.2.1) dL_act_479 ?_
      refine zr_iload4 X dL_act_482 ?_
      refine zr_aaldD (k := 21) (n := c9) (r := A (40 + c9)) X rfl (show _ < 12 from (by first | decide | omega)) (hS.2.2.2.1 c9 (by omega)) dL_act_484 ?_
      refine zr_getI X zf_L_175 rfl dL_act_485 ?_
      refine zr_eq (x2 := (sC (tC S c9 0 ((sC S c9 0) + (nI (1 + v10)))) c9 0)) (hw71.2.2.2.2.2.2 c9 (by omega) 0 (by decide)) ?_
      refine zr_eq (x2 := ((sC S c9 0) + (nI (1 + v10)))) (zu2_eq) ?_
      refine zr_icmp_ne (tgt := 495) X dL_act_488 (by decide) (fun h14 => ?_) (fun h14 => ?_)
      · exact absurd rfl h14
      · skip
        refine zr_iconst (v := (1 : Int32)) X dL_act_491 (by decide) ?_
        refine zr_goto (tgt := 496) X dL_act_492 (by decide) ?_
        refine zr_iret X (by decide) (by decide) dL_act_496 ?_
        exact k1 _ _ hw71 (hG.kp zKp.c) (zfa.tr (zfa.tr (zfa.tr hf50 hf66) hf68) hf72)
    · skip
      refine zr_aload0 X dL_act_434 ?_
      refine zr_iload4 X dL_act_435 ?_
      refine zr_iload12 X dL_act_437 ?_
      refine zr_callSX (rm9 := zrm_L_charge) (As := [vr (x) 7, vi ((nI c9)), vi ((nI (1 + v10)))]) (st := []) X zmh_L_225 rfl rfl ⟨by decide, Nat.le_of_ble_eq_true rfl⟩ ⟨by decide, by decide⟩ (Nat.le_of_ble_eq_true rfl) dL_act_439 ?_
      have hR15 : rCharge S (nI c9) (nI (1 + v10)) = (3, 0) := zR_chargeN (by omega) (by omega) (by omega) (by omega) (Int32.not_le.mp h12)
      refine zL_charge hw65.1 (fun J73 hJ74 => ?_)
      rw [zif_n hR15, zif_n hR15] at hJ74
      obtain ⟨hw75, hf76⟩ := zWd.cls hE hw65 hJ74
      refine zr_eq (x2 := (-2000000099 : Int32)) ((zcd_n hR15).trans rfl) ?_
      refine zr_ldc (v := -2000000099) X dL_act_442 zk_L_98 ?_
      refine zr_icmp_ne (tgt := 451) X dL_act_444 (by decide) (fun h => absurd h (by decide)) (fun _ => ?_)
      refine zr_iconst (v := (2 : Int32)) X dL_act_447 (by decide) ?_
      refine zr_goto (tgt := 452) X dL_act_448 (by decide) ?_
      refine zr_iret X (by decide) (by decide) dL_act_452 ?_
      exact k2 _ hw75 (zfa.tr (zfa.tr hf50 hf66) hf76)
set_option maxRecDepth 20000 in
theorem za497_0 {l : Launch} {D : va_G} {b0 : Nat} {tA : Nat → ClassId} {sa sv : Nat → Nat} {K : zKt} {I : zI} {Qp : zI → Option AV → Prop} {Xp : String → zI → Prop} {p : Program} {e : Env} {s : State} {m : MethodId} {args : Array Value} {below : List Frame} {meth : Method} {c : Code} {x r f g c9 : Nat} {t : Nat → Nat} {er : Int32} {S : zS} {U : List zS} {A : Nat → Nat} {n7 m7 : Nat}
    (X : zX p l e zrm_L_act s m args below meth c RL cL_act 18 (some .int) D b0 tA sa sv) (hnt : ∀ x ∈ c.exceptionTable.toList, False) (hS : zSh K A n7 m7) (hE : zEn x r A n7 m7) (hw : zWd I x t f er S U A n7 m7 S) (hG : zGp S) (hg : g < n7) (hc : c9 < m7) (k1 : ∀ (J : zI) (S2 : zS), zWd J x t f er S2 (qPush S U) A n7 m7 S2 → zGp S2 → zfa I J x r A n7 m7 → Qp J (some (vi 1))) (k2 : ∀ J : zI, zWd J x t f er S U A n7 m7 S → zfa I J x r A n7 m7 → Qp J (some (vi 2))) :
    zG p l e zrm_L_act s m args below meth c 18 D b0 tA sa 0 0 (zQ below D b0 tA sa K args s zrm_L_act Qp Xp) K 497 [some (vr (x) 7), some (vr (A (0)) 17), some (vr (r) 16), some (vi ((nI g))), some (vi ((nI c9))), some (vi ((0 : Int32))), none, none, none, none, none, none, none, none, none, none, none, none] [] I := by
  have hA := hS.1
  have hM := hw.2
  have hW := hw.1.2.2.2.1
  have hn6 := hM.1.1
  have hm12 := hM.1.2
  have hgn := hM.ng
  have hcm := hM.nc
  have hlen := hW.len
  have hl0 := hlen g 0
  have hl1 := hlen g 1
  refine zr_aload2 X dL_act_497 ?_
  refine zr_iconst (v := (3 : Int32)) X dL_act_498 (by decide) ?_
  refine zr_callVQ (rm9 := zrm_X11_below) (As := [vi ((3 : Int32))]) (st := []) X zm_L_118 rfl rfl ⟨by decide, Nat.le_of_ble_eq_true rfl⟩ ⟨by decide, by decide⟩ (Nat.le_of_ble_eq_true rfl) dL_act_499 ?_
  refine zw_X11_below (b := 3) hE hw (by omega) (by omega) (fun J77 v1 hv2 hw78 hf79 => ?_); rcases (show v1 = 0 ∨ v1 = 1 ∨ v1 = 2 by omega) with rfl | rfl | rfl
  · skip
    refine zr_eq (x2 := (0 : Int32)) rfl ?_
    refine zr_istore13 X (by decide) rfl dL_act_502 ?_
    refine zr_aload1 X dL_act_504 ?_
    refine zr_getD (r := A (1)) X zf_L_146 rfl (by decide) (hS.2.1.2.1) dL_act_505 ?_
    refine zr_iload3 X dL_act_508 ?_
    refine zr_aaldD (k := 20) (n := g) (r := A (4 + 5 * g)) X rfl (show _ < 6 from (by first | decide | omega)) ((hS.2.2.1 g (by omega)).1) dL_act_509 ?_
    refine zr_astore14 X (by decide) rfl dL_act_510 ?_
    refine zr_aload14 X dL_act_512 ?_
    refine zr_getI X zf_L_228 rfl dL_act_514 ?_
    refine zr_eq (x2 := (sG S g 1)) ((hw78.2.2.2.2.2.1 g (by omega)).1 1 (by decide)) ?_
    refine zr_if_gt (tgt := 553) X dL_act_517 (by decide) (fun h3 => ?_) (fun h3 => ?_)
    · skip
      refine zr_aload0 X dL_act_553 ?_
      refine zr_iload3 X dL_act_554 ?_
      refine zr_iload13 X dL_act_555 ?_
      refine zr_callSX (rm9 := zrm_L_mode) (As := [vr (x) 7, vi ((nI g)), vi ((0 : Int32))]) (st := []) X zmh_L_238 rfl rfl ⟨by decide, Nat.le_of_ble_eq_true rfl⟩ ⟨by decide, by decide⟩ (Nat.le_of_ble_eq_true rfl) dL_act_557 ?_
      have hR4 : rMode S (nI g) (0 : Int32) = (3, 0) := zR_modeN (k := 0) (by omega) (by omega) (by decide) (fun z => absurd ((zopen_iff (hW.pad g)).mpr z.1) (Int32.not_le.mpr h3))
      refine zL_mode hw78.1 (fun J80 hJ81 => ?_)
      rw [zif_n hR4, zif_n hR4] at hJ81
      obtain ⟨hw82, hf83⟩ := zWd.cls hE hw78 hJ81
      refine zr_eq (x2 := (-2000000099 : Int32)) ((zcd_n hR4).trans rfl) ?_
      refine zr_ldc (v := -2000000099) X dL_act_560 zk_L_98 ?_
      refine zr_icmp_ne (tgt := 569) X dL_act_562 (by decide) (fun h => absurd h (by decide)) (fun _ => ?_)
      refine zr_iconst (v := (2 : Int32)) X dL_act_565 (by decide) ?_
      refine zr_goto (tgt := 570) X dL_act_566 (by decide) ?_
      refine zr_iret X (by decide) (by decide) dL_act_570 ?_
      exact k2 _ hw82 (zfa.tr hf79 hf83)
    · skip
      refine zr_iload13 X dL_act_520 ?_
      refine zr_if_ne (tgt := 536) X dL_act_522 (by decide) (fun h => absurd h (by decide)) (fun _ => ?_)
      refine zr_aload14 X dL_act_525 ?_
      refine zr_getD (r := A (7 + 5 * g)) X zf_L_231 rfl (by decide) ((hS.2.2.1 g (by omega)).2.2.1) dL_act_527 ?_
      refine zr_getI X zf_L_204 rfl dL_act_530 ?_
      refine zr_eq (x2 := (nI ((sL S g 1).length))) ((hw78.2.2.2.2.2.1 g (by omega)).2.2.1) ?_
      refine zr_nif_gt X (((sL S g 1).length)) (tgt := 553) (by omega) dL_act_533 (by decide) (fun h5 => ?_) (fun h5 => ?_)
      · skip
        refine zr_aload0 X dL_act_553 ?_
        refine zr_iload3 X dL_act_554 ?_
        refine zr_iload13 X dL_act_555 ?_
        refine zr_callSX (rm9 := zrm_L_mode) (As := [vr (x) 7, vi ((nI g)), vi ((0 : Int32))]) (st := []) X zmh_L_238 rfl rfl ⟨by decide, Nat.le_of_ble_eq_true rfl⟩ ⟨by decide, by decide⟩ (Nat.le_of_ble_eq_true rfl) dL_act_557 ?_
        have hR6 : rMode S (nI g) (0 : Int32) = (3, 0) := zR_modeN (k := 0) (by omega) (by omega) (by decide) (fun z => z.2.2.elim (by decide) (fun z9 => by have h8 := h5; rw [z9] at h8; exact absurd h8 (by decide)))
        refine zL_mode hw78.1 (fun J84 hJ85 => ?_)
        rw [zif_n hR6, zif_n hR6] at hJ85
        obtain ⟨hw86, hf87⟩ := zWd.cls hE hw78 hJ85
        refine zr_eq (x2 := (-2000000099 : Int32)) ((zcd_n hR6).trans rfl) ?_
        refine zr_ldc (v := -2000000099) X dL_act_560 zk_L_98 ?_
        refine zr_icmp_ne (tgt := 569) X dL_act_562 (by decide) (fun h => absurd h (by decide)) (fun _ => ?_)
        refine zr_iconst (v := (2 : Int32)) X dL_act_565 (by decide) ?_
        refine zr_goto (tgt := 570) X dL_act_566 (by decide) ?_
        refine zr_iret X (by decide) (by decide) dL_act_570 ?_
        exact k2 _ hw86 (zfa.tr hf79 hf87)
      · skip
        refine zr_iload13 X dL_act_536 ?_
        refine zr_iconst (v := (1 : Int32)) X dL_act_538 (by decide) ?_
        refine zr_icmp_ne (tgt := 571) X dL_act_539 (by decide) (fun _ => ?_) (fun h => absurd h (by decide))
        refine zr_aload14 X dL_act_571 ?_
        refine zr_getI X zf_L_155 rfl dL_act_573 ?_
        refine zr_eq (x2 := (sG S g 0)) ((hw78.2.2.2.2.2.1 g (by omega)).1 0 (by decide)) ?_
        refine zr_istore15 X (by decide) rfl dL_act_576 ?_
        refine zr_aload14 X dL_act_578 ?_
        refine zr_iload13 X dL_act_580 ?_
        refine zr_putI X zf_L_155 rfl (Or.inl rfl) dL_act_582 ?_
        have hM_1 : zSt _ A n7 m7 (tG S g 0 (0 : Int32)) := zSt_G hA hw78.2 (show g < n7 by omega) (j := 0) (v := (0 : Int32)) (x := (0 : Int32)) (by decide) (by first | rfl | decide | exact (zside _).symm | exact (zside6 _).symm)
        refine zr_aload0 X dL_act_585 ?_
        refine zr_iload3 X dL_act_586 ?_
        refine zr_iload13 X dL_act_587 ?_
        refine zr_callSX (rm9 := zrm_L_mode) (As := [vr (x) 7, vi ((nI g)), vi ((0 : Int32))]) (st := []) X zmh_L_238 rfl rfl ⟨by decide, Nat.le_of_ble_eq_true rfl⟩ ⟨by decide, by decide⟩ (Nat.le_of_ble_eq_true rfl) dL_act_589 ?_
        obtain ⟨hw88, hf89⟩ := zWd.stn (J := (zput J77 (A (4 + 5 * g)) 0 ((0 : Int32)))) hE hw78 (zgA.put zgA.rf (by unfold zvd; omega)) hM_1
        have hR7 : rMode S (nI g) (0 : Int32) = (0, sG S g 0) ∧ sMode S (nI g) (0 : Int32) = tG S g 0 (0 : Int32) := zR_mode (k := 0) (by omega) (by omega) (by decide) ⟨(zopen_iff (hW.pad g)).mp (Int32.not_lt.mp h3), Or.inl (by decide), Or.inr (List.length_eq_zero_iff.mp (by omega))⟩
        refine zL_mode hw88.1 (fun J90 hJ91 => ?_)
        rw [zif_0 hR7.1, zif_0 hR7.1, hR7.2] at hJ91
        obtain ⟨hw92, hf93⟩ := zWd.cls hE hw88 hJ91
        refine zr_eq (x2 := sG S g 0) (zcd_0 hR7.1) ?_
        refine zr_iload15 X dL_act_592 ?_
        refine zr_icmp_ne (tgt := 601) X dL_act_594 (by decide) (fun h8 => ?_) (fun h8 => ?_)
        · exact absurd rfl h8
        · skip
          refine zr_iconst (v := (1 : Int32)) X dL_act_597 (by decide) ?_
          refine zr_goto (tgt := 602) X dL_act_598 (by decide) ?_
          refine zr_iret X (by decide) (by decide) dL_act_602 ?_
          exact k1 _ _ hw92 (hG.mode (v := (0 : Int32)) (Or.inl (by decide)) (Or.inr (List.length_eq_zero_iff.mp (by omega)))) (zfa.tr (zfa.tr hf79 hf89) hf93)
  · skip
    refine zr_eq (x2 := (1 : Int32)) rfl ?_
    refine zr_istore13 X (by decide) rfl dL_act_502 ?_
    refine zr_aload1 X dL_act_504 ?_
    refine zr_getD (r := A (1)) X zf_L_146 rfl (by decide) (hS.2.1.2.1) dL_act_505 ?_
    refine zr_iload3 X dL_act_508 ?_
    refine zr_aaldD (k := 20) (n := g) (r := A (4 + 5 * g)) X rfl (show _ < 6 from (by first | decide | omega)) ((hS.2.2.1 g (by omega)).1) dL_act_509 ?_
    refine zr_astore14 X (by decide) rfl dL_act_510 ?_
    refine zr_aload14 X dL_act_512 ?_
    refine zr_getI X zf_L_228 rfl dL_act_514 ?_
    refine zr_eq (x2 := (sG S g 1)) ((hw78.2.2.2.2.2.1 g (by omega)).1 1 (by decide)) ?_
    refine zr_if_gt (tgt := 553) X dL_act_517 (by decide) (fun h9 => ?_) (fun h9 => ?_)
    · skip
      refine zr_aload0 X dL_act_553 ?_
      refine zr_iload3 X dL_act_554 ?_
      refine zr_iload13 X dL_act_555 ?_
      refine zr_callSX (rm9 := zrm_L_mode) (As := [vr (x) 7, vi ((nI g)), vi ((1 : Int32))]) (st := []) X zmh_L_238 rfl rfl ⟨by decide, Nat.le_of_ble_eq_true rfl⟩ ⟨by decide, by decide⟩ (Nat.le_of_ble_eq_true rfl) dL_act_557 ?_
      have hR10 : rMode S (nI g) (1 : Int32) = (3, 0) := zR_modeN (k := 1) (by omega) (by omega) (by decide) (fun z => absurd ((zopen_iff (hW.pad g)).mpr z.1) (Int32.not_le.mpr h9))
      refine zL_mode hw78.1 (fun J94 hJ95 => ?_)
      rw [zif_n hR10, zif_n hR10] at hJ95
      obtain ⟨hw96, hf97⟩ := zWd.cls hE hw78 hJ95
      refine zr_eq (x2 := (-2000000099 : Int32)) ((zcd_n hR10).trans rfl) ?_
      refine zr_ldc (v := -2000000099) X dL_act_560 zk_L_98 ?_
      refine zr_icmp_ne (tgt := 569) X dL_act_562 (by decide) (fun h => absurd h (by decide)) (fun _ => ?_)
      refine zr_iconst (v := (2 : Int32)) X dL_act_565 (by decide) ?_
      refine zr_goto (tgt := 570) X dL_act_566 (by decide) ?_
      refine zr_iret X (by decide) (by decide) dL_act_570 ?_
      exact k2 _ hw96 (zfa.tr hf79 hf97)
    · skip
      refine zr_iload13 X dL_act_520 ?_
      refine zr_if_ne (tgt := 536) X dL_act_522 (by decide) (fun _ => ?_) (fun h => absurd h (by decide))
      refine zr_iload13 X dL_act_536 ?_
      refine zr_iconst (v := (1 : Int32)) X dL_act_538 (by decide) ?_
      refine zr_icmp_ne (tgt := 571) X dL_act_539 (by decide) (fun h => absurd h (by decide)) (fun _ => ?_)
      refine zr_aload14 X dL_act_542 ?_
      refine zr_getD (r := A (5 + 5 * g)) X zf_L_235 rfl (by decide) ((hS.2.2.1 g (by omega)).2.1) dL_act_544 ?_
      refine zr_getI X zf_L_204 rfl dL_act_547 ?_
      refine zr_eq (x2 := (nI ((sL S g 0).length))) ((hw78.2.2.2.2.2.1 g (by omega)).2.1.1) ?_
      refine zr_nif_le X (((sL S g 0).length)) (tgt := 571) (by omega) dL_act_550 (by decide) (fun h11 => ?_) (fun h11 => ?_)
      · skip
        refine zr_aload14 X dL_act_571 ?_
        refine zr_getI X zf_L_155 rfl dL_act_573 ?_
        refine zr_eq (x2 := (sG S g 0)) ((hw78.2.2.2.2.2.1 g (by omega)).1 0 (by decide)) ?_
        refine zr_istore15 X (by decide) rfl dL_act_576 ?_
        refine zr_aload14 X dL_act_578 ?_
        refine zr_iload13 X dL_act_580 ?_
        refine zr_putI X zf_L_155 rfl (Or.inl rfl) dL_act_582 ?_
        have hM_2 : zSt _ A n7 m7 (tG S g 0 (1 : Int32)) := zSt_G hA hw78.2 (show g < n7 by omega) (j := 0) (v := (1 : Int32)) (x := (1 : Int32)) (by decide) (by first | rfl | decide | exact (zside _).symm | exact (zside6 _).symm)
        refine zr_aload0 X dL_act_585 ?_
        refine zr_iload3 X dL_act_586 ?_
        refine zr_iload13 X dL_act_587 ?_
        refine zr_callSX (rm9 := zrm_L_mode) (As := [vr (x) 7, vi ((nI g)), vi ((1 : Int32))]) (st := []) X zmh_L_238 rfl rfl ⟨by decide, Nat.le_of_ble_eq_true rfl⟩ ⟨by decide, by decide⟩ (Nat.le_of_ble_eq_true rfl) dL_act_589 ?_
        obtain ⟨hw98, hf99⟩ := zWd.stn (J := (zput J77 (A (4 + 5 * g)) 0 ((1 : Int32)))) hE hw78 (zgA.put zgA.rf (by unfold zvd; omega)) hM_2
        have hR12 : rMode S (nI g) (1 : Int32) = (0, sG S g 0) ∧ sMode S (nI g) (1 : Int32) = tG S g 0 (1 : Int32) := zR_mode (k := 1) (by omega) (by omega) (by decide) ⟨(zopen_iff (hW.pad g)).mp (Int32.not_lt.mp h9), Or.inr (List.length_eq_zero_iff.mp (by omega)), Or.inl (by decide)⟩
        refine zL_mode hw98.1 (fun J100 hJ101 => ?_)
        rw [zif_0 hR12.1, zif_0 hR12.1, hR12.2] at hJ101
        obtain ⟨hw102, hf103⟩ := zWd.cls hE hw98 hJ101
        refine zr_eq (x2 := sG S g 0) (zcd_0 hR12.1) ?_
        refine zr_iload15 X dL_act_592 ?_
        refine zr_icmp_ne (tgt := 601) X dL_act_594 (by decide) (fun h13 => ?_) (fun h13 => ?_)
        · exact absurd rfl h13
        · skip
          refine zr_iconst (v := (1 : Int32)) X dL_act_597 (by decide) ?_
          refine zr_goto (tgt := 602) X dL_act_598 (by decide) ?_
          refine zr_iret X (by decide) (by decide) dL_act_602 ?_
          exact k1 _ _ hw102 (hG.mode (v := (1 : Int32)) (Or.inr (List.length_eq_zero_iff.mp (by omega))) (Or.inl (by decide))) (zfa.tr (zfa.tr hf79 hf99) hf103)
      · skip
        refine zr_aload0 X dL_act_553 ?_
        refine zr_iload3 X dL_act_554 ?_
        refine zr_iload13 X dL_act_555 ?_
        refine zr_callSX (rm9 := zrm_L_mode) (As := [vr (x) 7, vi ((nI g)), vi ((1 : Int32))]) (st := []) X zmh_L_238 rfl rfl ⟨by decide, Nat.le_of_ble_eq_true rfl⟩ ⟨by decide, by decide⟩ (Nat.le_of_ble_eq_true rfl) dL_act_557 ?_
        have hR14 : rMode S (nI g) (1 : Int32) = (3, 0) := zR_modeN (k := 1) (by omega) (by omega) (by decide) (fun z => z.2.1.elim (by decide) (fun z9 => by have h8 := h11; rw [z9] at h8; exact absurd h8 (by decide)))
        refine zL_mode hw78.1 (fun J104 hJ105 => ?_)
        rw [zif_n hR14, zif_n hR14] at hJ105
        obtain ⟨hw106, hf107⟩ := zWd.cls hE hw78 hJ105
        refine zr_eq (x2 := (-2000000099 : Int32)) ((zcd_n hR14).trans rfl) ?_
        refine zr_ldc (v := -2000000099) X dL_act_560 zk_L_98 ?_
        refine zr_icmp_ne (tgt := 569) X dL_act_562 (by decide) (fun h => absurd h (by decide)) (fun _ => ?_)
        refine zr_iconst (v := (2 : Int32)) X dL_act_565 (by decide) ?_
        refine zr_goto (tgt := 570) X dL_act_566 (by decide) ?_
        refine zr_iret X (by decide) (by decide) dL_act_570 ?_
        exact k2 _ hw106 (zfa.tr hf79 hf107)
  · skip
    refine zr_eq (x2 := (2 : Int32)) rfl ?_
    refine zr_istore13 X (by decide) rfl dL_act_502 ?_
    refine zr_aload1 X dL_act_504 ?_
    refine zr_getD (r := A (1)) X zf_L_146 rfl (by decide) (hS.2.1.2.1) dL_act_505 ?_
    refine zr_iload3 X dL_act_508 ?_
    refine zr_aaldD (k := 20) (n := g) (r := A (4 + 5 * g)) X rfl (show _ < 6 from (by first | decide | omega)) ((hS.2.2.1 g (by omega)).1) dL_act_509 ?_
    refine zr_astore14 X (by decide) rfl dL_act_510 ?_
    refine zr_aload14 X dL_act_512 ?_
    refine zr_getI X zf_L_228 rfl dL_act_514 ?_
    refine zr_eq (x2 := (sG S g 1)) ((hw78.2.2.2.2.2.1 g (by omega)).1 1 (by decide)) ?_
    refine zr_if_gt (tgt := 553) X dL_act_517 (by decide) (fun h15 => ?_) (fun h15 => ?_)
    · skip
      refine zr_aload0 X dL_act_553 ?_
      refine zr_iload3 X dL_act_554 ?_
      refine zr_iload13 X dL_act_555 ?_
      refine zr_callSX (rm9 := zrm_L_mode) (As := [vr (x) 7, vi ((nI g)), vi ((2 : Int32))]) (st := []) X zmh_L_238 rfl rfl ⟨by decide, Nat.le_of_ble_eq_true rfl⟩ ⟨by decide, by decide⟩ (Nat.le_of_ble_eq_true rfl) dL_act_557 ?_
      have hR16 : rMode S (nI g) (2 : Int32) = (3, 0) := zR_modeN (k := 2) (by omega) (by omega) (by decide) (fun z => absurd ((zopen_iff (hW.pad g)).mpr z.1) (Int32.not_le.mpr h15))
      refine zL_mode hw78.1 (fun J108 hJ109 => ?_)
      rw [zif_n hR16, zif_n hR16] at hJ109
      obtain ⟨hw110, hf111⟩ := zWd.cls hE hw78 hJ109
      refine zr_eq (x2 := (-2000000099 : Int32)) ((zcd_n hR16).trans rfl) ?_
      refine zr_ldc (v := -2000000099) X dL_act_560 zk_L_98 ?_
      refine zr_icmp_ne (tgt := 569) X dL_act_562 (by decide) (fun h => absurd h (by decide)) (fun _ => ?_)
      refine zr_iconst (v := (2 : Int32)) X dL_act_565 (by decide) ?_
      refine zr_goto (tgt := 570) X dL_act_566 (by decide) ?_
      refine zr_iret X (by decide) (by decide) dL_act_570 ?_
      exact k2 _ hw110 (zfa.tr hf79 hf111)
    · skip
      refine zr_iload13 X dL_act_520 ?_
      refine zr_if_ne (tgt := 536) X dL_act_522 (by decide) (fun _ => ?_) (fun h => absurd h (by decide))
      refine zr_iload13 X dL_act_536 ?_
      refine zr_iconst (v := (1 : Int32)) X dL_act_538 (by decide) ?_
      refine zr_icmp_ne (tgt := 571) X dL_act_539 (by decide) (fun _ => ?_) (fun h => absurd h (by decide))
      refine zr_aload14 X dL_act_571 ?_
      refine zr_getI X zf_L_155 rfl dL_act_573 ?_
      refine zr_eq (x2 := (sG S g 0)) ((hw78.2.2.2.2.2.1 g (by omega)).1 0 (by decide)) ?_
      refine zr_istore15 X (by decide) rfl dL_act_576 ?_
      refine zr_aload14 X dL_act_578 ?_
      refine zr_iload13 X dL_act_580 ?_
      refine zr_putI X zf_L_155 rfl (Or.inl rfl) dL_act_582 ?_
      have hM_3 : zSt _ A n7 m7 (tG S g 0 (2 : Int32)) := zSt_G hA hw78.2 (show g < n7 by omega) (j := 0) (v := (2 : Int32)) (x := (2 : Int32)) (by decide) (by first | rfl | decide | exact (zside _).symm | exact (zside6 _).symm)
      refine zr_aload0 X dL_act_585 ?_
      refine zr_iload3 X dL_act_586 ?_
      refine zr_iload13 X dL_act_587 ?_
      refine zr_callSX (rm9 := zrm_L_mode) (As := [vr (x) 7, vi ((nI g)), vi ((2 : Int32))]) (st := []) X zmh_L_238 rfl rfl ⟨by decide, Nat.le_of_ble_eq_true rfl⟩ ⟨by decide, by decide⟩ (Nat.le_of_ble_eq_true rfl) dL_act_589 ?_
      obtain ⟨hw112, hf113⟩ := zWd.stn (J := (zput J77 (A (4 + 5 * g)) 0 ((2 : Int32)))) hE hw78 (zgA.put zgA.rf (by unfold zvd; omega)) hM_3
      have hR17 : rMode S (nI g) (2 : Int32) = (0, sG S g 0) ∧ sMode S (nI g) (2 : Int32) = tG S g 0 (2 : Int32) := zR_mode (k := 2) (by omega) (by omega) (by decide) ⟨(zopen_iff (hW.pad g)).mp (Int32.not_lt.mp h15), Or.inl (by decide), Or.inl (by decide)⟩
      refine zL_mode hw112.1 (fun J114 hJ115 => ?_)
      rw [zif_0 hR17.1, zif_0 hR17.1, hR17.2] at hJ115
      obtain ⟨hw116, hf117⟩ := zWd.cls hE hw112 hJ115
      refine zr_eq (x2 := sG S g 0) (zcd_0 hR17.1) ?_
      refine zr_iload15 X dL_act_592 ?_
      refine zr_icmp_ne (tgt := 601) X dL_act_594 (by decide) (fun h18 => ?_) (fun h18 => ?_)
      · exact absurd rfl h18
      · skip
        refine zr_iconst (v := (1 : Int32)) X dL_act_597 (by decide) ?_
        refine zr_goto (tgt := 602) X dL_act_598 (by decide) ?_
        refine zr_iret X (by decide) (by decide) dL_act_602 ?_
        exact k1 _ _ hw116 (hG.mode (v := (2 : Int32)) (Or.inl (by decide)) (Or.inl (by decide))) (zfa.tr (zfa.tr hf79 hf113) hf117)
set_option maxRecDepth 20000 in
theorem za497_1 {l : Launch} {D : va_G} {b0 : Nat} {tA : Nat → ClassId} {sa sv : Nat → Nat} {K : zKt} {I : zI} {Qp : zI → Option AV → Prop} {Xp : String → zI → Prop} {p : Program} {e : Env} {s : State} {m : MethodId} {args : Array Value} {below : List Frame} {meth : Method} {c : Code} {x r f g c9 : Nat} {t : Nat → Nat} {er : Int32} {S : zS} {U : List zS} {A : Nat → Nat} {n7 m7 : Nat}
    (X : zX p l e zrm_L_act s m args below meth c RL cL_act 18 (some .int) D b0 tA sa sv) (hnt : ∀ x ∈ c.exceptionTable.toList, False) (hS : zSh K A n7 m7) (hE : zEn x r A n7 m7) (hw : zWd I x t f er S U A n7 m7 S) (hG : zGp S) (hg : g < n7) (hc : c9 < m7) (k1 : ∀ (J : zI) (S2 : zS), zWd J x t f er S2 (qPush S U) A n7 m7 S2 → zGp S2 → zfa I J x r A n7 m7 → Qp J (some (vi 1))) (k2 : ∀ J : zI, zWd J x t f er S U A n7 m7 S → zfa I J x r A n7 m7 → Qp J (some (vi 2))) :
    zG p l e zrm_L_act s m args below meth c 18 D b0 tA sa 0 0 (zQ below D b0 tA sa K args s zrm_L_act Qp Xp) K 497 [some (vr (x) 7), some (vr (A (0)) 17), some (vr (r) 16), some (vi ((nI g))), some (vi ((nI c9))), some (vi ((1 : Int32))), none, none, none, none, none, none, none, none, none, none, none, none] [] I := by
  have hA := hS.1
  have hM := hw.2
  have hW := hw.1.2.2.2.1
  have hn6 := hM.1.1
  have hm12 := hM.1.2
  have hgn := hM.ng
  have hcm := hM.nc
  have hlen := hW.len
  have hl0 := hlen g 0
  have hl1 := hlen g 1
  refine zr_aload2 X dL_act_497 ?_
  refine zr_iconst (v := (3 : Int32)) X dL_act_498 (by decide) ?_
  refine zr_callVQ (rm9 := zrm_X11_below) (As := [vi ((3 : Int32))]) (st := []) X zm_L_118 rfl rfl ⟨by decide, Nat.le_of_ble_eq_true rfl⟩ ⟨by decide, by decide⟩ (Nat.le_of_ble_eq_true rfl) dL_act_499 ?_
  refine zw_X11_below (b := 3) hE hw (by omega) (by omega) (fun J118 v1 hv2 hw119 hf120 => ?_); rcases (show v1 = 0 ∨ v1 = 1 ∨ v1 = 2 by omega) with rfl | rfl | rfl
  · skip
    refine zr_eq (x2 := (0 : Int32)) rfl ?_
    refine zr_istore13 X (by decide) rfl dL_act_502 ?_
    refine zr_aload1 X dL_act_504 ?_
    refine zr_getD (r := A (1)) X zf_L_146 rfl (by decide) (hS.2.1.2.1) dL_act_505 ?_
    refine zr_iload3 X dL_act_508 ?_
    refine zr_aaldD (k := 20) (n := g) (r := A (4 + 5 * g)) X rfl (show _ < 6 from (by first | decide | omega)) ((hS.2.2.1 g (by omega)).1) dL_act_509 ?_
    refine zr_astore14 X (by decide) rfl dL_act_510 ?_
    refine zr_aload14 X dL_act_512 ?_
    refine zr_getI X zf_L_228 rfl dL_act_514 ?_
    refine zr_eq (x2 := (sG S g 1)) ((hw119.2.2.2.2.2.1 g (by omega)).1 1 (by decide)) ?_
    refine zr_if_gt (tgt := 553) X dL_act_517 (by decide) (fun h3 => ?_) (fun h3 => ?_)
    · skip
      refine zr_aload0 X dL_act_553 ?_
      refine zr_iload3 X dL_act_554 ?_
      refine zr_iload13 X dL_act_555 ?_
      refine zr_callSX (rm9 := zrm_L_mode) (As := [vr (x) 7, vi ((nI g)), vi ((0 : Int32))]) (st := []) X zmh_L_238 rfl rfl ⟨by decide, Nat.le_of_ble_eq_true rfl⟩ ⟨by decide, by decide⟩ (Nat.le_of_ble_eq_true rfl) dL_act_557 ?_
      have hR4 : rMode S (nI g) (0 : Int32) = (3, 0) := zR_modeN (k := 0) (by omega) (by omega) (by decide) (fun z => absurd ((zopen_iff (hW.pad g)).mpr z.1) (Int32.not_le.mpr h3))
      refine zL_mode hw119.1 (fun J121 hJ122 => ?_)
      rw [zif_n hR4, zif_n hR4] at hJ122
      obtain ⟨hw123, hf124⟩ := zWd.cls hE hw119 hJ122
      refine zr_eq (x2 := (-2000000099 : Int32)) ((zcd_n hR4).trans rfl) ?_
      refine zr_ldc (v := -2000000099) X dL_act_560 zk_L_98 ?_
      refine zr_icmp_ne (tgt := 569) X dL_act_562 (by decide) (fun h => absurd h (by decide)) (fun _ => ?_)
      refine zr_iconst (v := (2 : Int32)) X dL_act_565 (by decide) ?_
      refine zr_goto (tgt := 570) X dL_act_566 (by decide) ?_
      refine zr_iret X (by decide) (by decide) dL_act_570 ?_
      exact k2 _ hw123 (zfa.tr hf120 hf124)
    · skip
      refine zr_iload13 X dL_act_520 ?_
      refine zr_if_ne (tgt := 536) X dL_act_522 (by decide) (fun h => absurd h (by decide)) (fun _ => ?_)
      refine zr_aload14 X dL_act_525 ?_
      refine zr_getD (r := A (7 + 5 * g)) X zf_L_231 rfl (by decide) ((hS.2.2.1 g (by omega)).2.2.1) dL_act_527 ?_
      refine zr_getI X zf_L_204 rfl dL_act_530 ?_
      refine zr_eq (x2 := (nI ((sL S g 1).length))) ((hw119.2.2.2.2.2.1 g (by omega)).2.2.1) ?_
      refine zr_nif_gt X (((sL S g 1).length)) (tgt := 553) (by omega) dL_act_533 (by decide) (fun h5 => ?_) (fun h5 => ?_)
      · skip
        refine zr_aload0 X dL_act_553 ?_
        refine zr_iload3 X dL_act_554 ?_
        refine zr_iload13 X dL_act_555 ?_
        refine zr_callSX (rm9 := zrm_L_mode) (As := [vr (x) 7, vi ((nI g)), vi ((0 : Int32))]) (st := []) X zmh_L_238 rfl rfl ⟨by decide, Nat.le_of_ble_eq_true rfl⟩ ⟨by decide, by decide⟩ (Nat.le_of_ble_eq_true rfl) dL_act_557 ?_
        have hR6 : rMode S (nI g) (0 : Int32) = (3, 0) := zR_modeN (k := 0) (by omega) (by omega) (by decide) (fun z => z.2.2.elim (by decide) (fun z9 => by have h8 := h5; rw [z9] at h8; exact absurd h8 (by decide)))
        refine zL_mode hw119.1 (fun J125 hJ126 => ?_)
        rw [zif_n hR6, zif_n hR6] at hJ126
        obtain ⟨hw127, hf128⟩ := zWd.cls hE hw119 hJ126
        refine zr_eq (x2 := (-2000000099 : Int32)) ((zcd_n hR6).trans rfl) ?_
        refine zr_ldc (v := -2000000099) X dL_act_560 zk_L_98 ?_
        refine zr_icmp_ne (tgt := 569) X dL_act_562 (by decide) (fun h => absurd h (by decide)) (fun _ => ?_)
        refine zr_iconst (v := (2 : Int32)) X dL_act_565 (by decide) ?_
        refine zr_goto (tgt := 570) X dL_act_566 (by decide) ?_
        refine zr_iret X (by decide) (by decide) dL_act_570 ?_
        exact k2 _ hw127 (zfa.tr hf120 hf128)
      · skip
        refine zr_iload13 X dL_act_536 ?_
        refine zr_iconst (v := (1 : Int32)) X dL_act_538 (by decide) ?_
        refine zr_icmp_ne (tgt := 571) X dL_act_539 (by decide) (fun _ => ?_) (fun h => absurd h (by decide))
        refine zr_aload14 X dL_act_571 ?_
        refine zr_getI X zf_L_155 rfl dL_act_573 ?_
        refine zr_eq (x2 := (sG S g 0)) ((hw119.2.2.2.2.2.1 g (by omega)).1 0 (by decide)) ?_
        refine zr_istore15 X (by decide) rfl dL_act_576 ?_
        refine zr_aload14 X dL_act_578 ?_
        refine zr_iload13 X dL_act_580 ?_
        refine zr_putI X zf_L_155 rfl (Or.inl rfl) dL_act_582 ?_
        have hM_1 : zSt _ A n7 m7 (tG S g 0 (0 : Int32)) := zSt_G hA hw119.2 (show g < n7 by omega) (j := 0) (v := (0 : Int32)) (x := (0 : Int32)) (by decide) (by first | rfl | decide | exact (zside _).symm | exact (zside6 _).symm)
        refine zr_aload0 X dL_act_585 ?_
        refine zr_iload3 X dL_act_586 ?_
        refine zr_iload13 X dL_act_587 ?_
        refine zr_callSX (rm9 := zrm_L_mode) (As := [vr (x) 7, vi ((nI g)), vi ((0 : Int32))]) (st := []) X zmh_L_238 rfl rfl ⟨by decide, Nat.le_of_ble_eq_true rfl⟩ ⟨by decide, by decide⟩ (Nat.le_of_ble_eq_true rfl) dL_act_589 ?_
        obtain ⟨hw129, hf130⟩ := zWd.stn (J := (zput J118 (A (4 + 5 * g)) 0 ((0 : Int32)))) hE hw119 (zgA.put zgA.rf (by unfold zvd; omega)) hM_1
        have hR7 : rMode S (nI g) (0 : Int32) = (0, sG S g 0) ∧ sMode S (nI g) (0 : Int32) = tG S g 0 (0 : Int32) := zR_mode (k := 0) (by omega) (by omega) (by decide) ⟨(zopen_iff (hW.pad g)).mp (Int32.not_lt.mp h3), Or.inl (by decide), Or.inr (List.length_eq_zero_iff.mp (by omega))⟩
        refine zL_mode hw129.1 (fun J131 hJ132 => ?_)
        rw [zif_0 hR7.1, zif_0 hR7.1, hR7.2] at hJ132
        obtain ⟨hw133, hf134⟩ := zWd.cls hE hw129 hJ132
        refine zr_eq (x2 := sG S g 0) (zcd_0 hR7.1) ?_
        refine zr_iload15 X dL_act_592 ?_
        refine zr_icmp_ne (tgt := 601) X dL_act_594 (by decide) (fun h8 => ?_) (fun h8 => ?_)
        · exact absurd rfl h8
        · skip
          refine zr_iconst (v := (1 : Int32)) X dL_act_597 (by decide) ?_
          refine zr_goto (tgt := 602) X dL_act_598 (by decide) ?_
          refine zr_iret X (by decide) (by decide) dL_act_602 ?_
          exact k1 _ _ hw133 (hG.mode (v := (0 : Int32)) (Or.inl (by decide)) (Or.inr (List.length_eq_zero_iff.mp (by omega)))) (zfa.tr (zfa.tr hf120 hf130) hf134)
  · skip
    refine zr_eq (x2 := (1 : Int32)) rfl ?_
    refine zr_istore13 X (by decide) rfl dL_act_502 ?_
    refine zr_aload1 X dL_act_504 ?_
    refine zr_getD (r := A (1)) X zf_L_146 rfl (by decide) (hS.2.1.2.1) dL_act_505 ?_
    refine zr_iload3 X dL_act_508 ?_
    refine zr_aaldD (k := 20) (n := g) (r := A (4 + 5 * g)) X rfl (show _ < 6 from (by first | decide | omega)) ((hS.2.2.1 g (by omega)).1) dL_act_509 ?_
    refine zr_astore14 X (by decide) rfl dL_act_510 ?_
    refine zr_aload14 X dL_act_512 ?_
    refine zr_getI X zf_L_228 rfl dL_act_514 ?_
    refine zr_eq (x2 := (sG S g 1)) ((hw119.2.2.2.2.2.1 g (by omega)).1 1 (by decide)) ?_
    refine zr_if_gt (tgt := 553) X dL_act_517 (by decide) (fun h9 => ?_) (fun h9 => ?_)
    · skip
      refine zr_aload0 X dL_act_553 ?_
      refine zr_iload3 X dL_act_554 ?_
      refine zr_iload13 X dL_act_555 ?_
      refine zr_callSX (rm9 := zrm_L_mode) (As := [vr (x) 7, vi ((nI g)), vi ((1 : Int32))]) (st := []) X zmh_L_238 rfl rfl ⟨by decide, Nat.le_of_ble_eq_true rfl⟩ ⟨by decide, by decide⟩ (Nat.le_of_ble_eq_true rfl) dL_act_557 ?_
      have hR10 : rMode S (nI g) (1 : Int32) = (3, 0) := zR_modeN (k := 1) (by omega) (by omega) (by decide) (fun z => absurd ((zopen_iff (hW.pad g)).mpr z.1) (Int32.not_le.mpr h9))
      refine zL_mode hw119.1 (fun J135 hJ136 => ?_)
      rw [zif_n hR10, zif_n hR10] at hJ136
      obtain ⟨hw137, hf138⟩ := zWd.cls hE hw119 hJ136
      refine zr_eq (x2 := (-2000000099 : Int32)) ((zcd_n hR10).trans rfl) ?_
      refine zr_ldc (v := -2000000099) X dL_act_560 zk_L_98 ?_
      refine zr_icmp_ne (tgt := 569) X dL_act_562 (by decide) (fun h => absurd h (by decide)) (fun _ => ?_)
      refine zr_iconst (v := (2 : Int32)) X dL_act_565 (by decide) ?_
      refine zr_goto (tgt := 570) X dL_act_566 (by decide) ?_
      refine zr_iret X (by decide) (by decide) dL_act_570 ?_
      exact k2 _ hw137 (zfa.tr hf120 hf138)
    · skip
      refine zr_iload13 X dL_act_520 ?_
      refine zr_if_ne (tgt := 536) X dL_act_522 (by decide) (fun _ => ?_) (fun h => absurd h (by decide))
      refine zr_iload13 X dL_act_536 ?_
      refine zr_iconst (v := (1 : Int32)) X dL_act_538 (by decide) ?_
      refine zr_icmp_ne (tgt := 571) X dL_act_539 (by decide) (fun h => absurd h (by decide)) (fun _ => ?_)
      refine zr_aload14 X dL_act_542 ?_
      refine zr_getD (r := A (5 + 5 * g)) X zf_L_235 rfl (by decide) ((hS.2.2.1 g (by omega)).2.1) dL_act_544 ?_
      refine zr_getI X zf_L_204 rfl dL_act_547 ?_
      refine zr_eq (x2 := (nI ((sL S g 0).length))) ((hw119.2.2.2.2.2.1 g (by omega)).2.1.1) ?_
      refine zr_nif_le X (((sL S g 0).length)) (tgt := 571) (by omega) dL_act_550 (by decide) (fun h11 => ?_) (fun h11 => ?_)
      · skip
        refine zr_aload14 X dL_act_571 ?_
        refine zr_getI X zf_L_155 rfl dL_act_573 ?_
        refine zr_eq (x2 := (sG S g 0)) ((hw119.2.2.2.2.2.1 g (by omega)).1 0 (by decide)) ?_
        refine zr_istore15 X (by decide) rfl dL_act_576 ?_
        refine zr_aload14 X dL_act_578 ?_
        refine zr_iload13 X dL_act_580 ?_
        refine zr_putI X zf_L_155 rfl (Or.inl rfl) dL_act_582 ?_
        have hM_2 : zSt _ A n7 m7 (tG S g 0 (1 : Int32)) := zSt_G hA hw119.2 (show g < n7 by omega) (j := 0) (v := (1 : Int32)) (x := (1 : Int32)) (by decide) (by first | rfl | decide | exact (zside _).symm | exact (zside6 _).symm)
        refine zr_aload0 X dL_act_585 ?_
        refine zr_iload3 X dL_act_586 ?_
        refine zr_iload13 X dL_act_587 ?_
        refine zr_callSX (rm9 := zrm_L_mode) (As := [vr (x) 7, vi ((nI g)), vi ((1 : Int32))]) (st := []) X zmh_L_238 rfl rfl ⟨by decide, Nat.le_of_ble_eq_true rfl⟩ ⟨by decide, by decide⟩ (Nat.le_of_ble_eq_true rfl) dL_act_589 ?_
        obtain ⟨hw139, hf140⟩ := zWd.stn (J := (zput J118 (A (4 + 5 * g)) 0 ((1 : Int32)))) hE hw119 (zgA.put zgA.rf (by unfold zvd; omega)) hM_2
        have hR12 : rMode S (nI g) (1 : Int32) = (0, sG S g 0) ∧ sMode S (nI g) (1 : Int32) = tG S g 0 (1 : Int32) := zR_mode (k := 1) (by omega) (by omega) (by decide) ⟨(zopen_iff (hW.pad g)).mp (Int32.not_lt.mp h9), Or.inr (List.length_eq_zero_iff.mp (by omega)), Or.inl (by decide)⟩
        refine zL_mode hw139.1 (fun J141 hJ142 => ?_)
        rw [zif_0 hR12.1, zif_0 hR12.1, hR12.2] at hJ142
        obtain ⟨hw143, hf144⟩ := zWd.cls hE hw139 hJ142
        refine zr_eq (x2 := sG S g 0) (zcd_0 hR12.1) ?_
        refine zr_iload15 X dL_act_592 ?_
        refine zr_icmp_ne (tgt := 601) X dL_act_594 (by decide) (fun h13 => ?_) (fun h13 => ?_)
        · exact absurd rfl h13
        · skip
          refine zr_iconst (v := (1 : Int32)) X dL_act_597 (by decide) ?_
          refine zr_goto (tgt := 602) X dL_act_598 (by decide) ?_
          refine zr_iret X (by decide) (by decide) dL_act_602 ?_
          exact k1 _ _ hw143 (hG.mode (v := (1 : Int32)) (Or.inr (List.length_eq_zero_iff.mp (by omega))) (Or.inl (by decide))) (zfa.tr (zfa.tr hf120 hf140) hf144)
      · skip
        refine zr_aload0 X dL_act_553 ?_
        refine zr_iload3 X dL_act_554 ?_
        refine zr_iload13 X dL_act_555 ?_
        refine zr_callSX (rm9 := zrm_L_mode) (As := [vr (x) 7, vi ((nI g)), vi ((1 : Int32))]) (st := []) X zmh_L_238 rfl rfl ⟨by decide, Nat.le_of_ble_eq_true rfl⟩ ⟨by decide, by decide⟩ (Nat.le_of_ble_eq_true rfl) dL_act_557 ?_
        have hR14 : rMode S (nI g) (1 : Int32) = (3, 0) := zR_modeN (k := 1) (by omega) (by omega) (by decide) (fun z => z.2.1.elim (by decide) (fun z9 => by have h8 := h11; rw [z9] at h8; exact absurd h8 (by decide)))
        refine zL_mode hw119.1 (fun J145 hJ146 => ?_)
        rw [zif_n hR14, zif_n hR14] at hJ146
        obtain ⟨hw147, hf148⟩ := zWd.cls hE hw119 hJ146
        refine zr_eq (x2 := (-2000000099 : Int32)) ((zcd_n hR14).trans rfl) ?_
        refine zr_ldc (v := -2000000099) X dL_act_560 zk_L_98 ?_
        refine zr_icmp_ne (tgt := 569) X dL_act_562 (by decide) (fun h => absurd h (by decide)) (fun _ => ?_)
        refine zr_iconst (v := (2 : Int32)) X dL_act_565 (by decide) ?_
        refine zr_goto (tgt := 570) X dL_act_566 (by decide) ?_
        refine zr_iret X (by decide) (by decide) dL_act_570 ?_
        exact k2 _ hw147 (zfa.tr hf120 hf148)
  · skip
    refine zr_eq (x2 := (2 : Int32)) rfl ?_
    refine zr_istore13 X (by decide) rfl dL_act_502 ?_
    refine zr_aload1 X dL_act_504 ?_
    refine zr_getD (r := A (1)) X zf_L_146 rfl (by decide) (hS.2.1.2.1) dL_act_505 ?_
    refine zr_iload3 X dL_act_508 ?_
    refine zr_aaldD (k := 20) (n := g) (r := A (4 + 5 * g)) X rfl (show _ < 6 from (by first | decide | omega)) ((hS.2.2.1 g (by omega)).1) dL_act_509 ?_
    refine zr_astore14 X (by decide) rfl dL_act_510 ?_
    refine zr_aload14 X dL_act_512 ?_
    refine zr_getI X zf_L_228 rfl dL_act_514 ?_
    refine zr_eq (x2 := (sG S g 1)) ((hw119.2.2.2.2.2.1 g (by omega)).1 1 (by decide)) ?_
    refine zr_if_gt (tgt := 553) X dL_act_517 (by decide) (fun h15 => ?_) (fun h15 => ?_)
    · skip
      refine zr_aload0 X dL_act_553 ?_
      refine zr_iload3 X dL_act_554 ?_
      refine zr_iload13 X dL_act_555 ?_
      refine zr_callSX (rm9 := zrm_L_mode) (As := [vr (x) 7, vi ((nI g)), vi ((2 : Int32))]) (st := []) X zmh_L_238 rfl rfl ⟨by decide, Nat.le_of_ble_eq_true rfl⟩ ⟨by decide, by decide⟩ (Nat.le_of_ble_eq_true rfl) dL_act_557 ?_
      have hR16 : rMode S (nI g) (2 : Int32) = (3, 0) := zR_modeN (k := 2) (by omega) (by omega) (by decide) (fun z => absurd ((zopen_iff (hW.pad g)).mpr z.1) (Int32.not_le.mpr h15))
      refine zL_mode hw119.1 (fun J149 hJ150 => ?_)
      rw [zif_n hR16, zif_n hR16] at hJ150
      obtain ⟨hw151, hf152⟩ := zWd.cls hE hw119 hJ150
      refine zr_eq (x2 := (-2000000099 : Int32)) ((zcd_n hR16).trans rfl) ?_
      refine zr_ldc (v := -2000000099) X dL_act_560 zk_L_98 ?_
      refine zr_icmp_ne (tgt := 569) X dL_act_562 (by decide) (fun h => absurd h (by decide)) (fun _ => ?_)
      refine zr_iconst (v := (2 : Int32)) X dL_act_565 (by decide) ?_
      refine zr_goto (tgt := 570) X dL_act_566 (by decide) ?_
      refine zr_iret X (by decide) (by decide) dL_act_570 ?_
      exact k2 _ hw151 (zfa.tr hf120 hf152)
    · skip
      refine zr_iload13 X dL_act_520 ?_
      refine zr_if_ne (tgt := 536) X dL_act_522 (by decide) (fun _ => ?_) (fun h => absurd h (by decide))
      refine zr_iload13 X dL_act_536 ?_
      refine zr_iconst (v := (1 : Int32)) X dL_act_538 (by decide) ?_
      refine zr_icmp_ne (tgt := 571) X dL_act_539 (by decide) (fun _ => ?_) (fun h => absurd h (by decide))
      refine zr_aload14 X dL_act_571 ?_
      refine zr_getI X zf_L_155 rfl dL_act_573 ?_
      refine zr_eq (x2 := (sG S g 0)) ((hw119.2.2.2.2.2.1 g (by omega)).1 0 (by decide)) ?_
      refine zr_istore15 X (by decide) rfl dL_act_576 ?_
      refine zr_aload14 X dL_act_578 ?_
      refine zr_iload13 X dL_act_580 ?_
      refine zr_putI X zf_L_155 rfl (Or.inl rfl) dL_act_582 ?_
      have hM_3 : zSt _ A n7 m7 (tG S g 0 (2 : Int32)) := zSt_G hA hw119.2 (show g < n7 by omega) (j := 0) (v := (2 : Int32)) (x := (2 : Int32)) (by decide) (by first | rfl | decide | exact (zside _).symm | exact (zside6 _).symm)
      refine zr_aload0 X dL_act_585 ?_
      refine zr_iload3 X dL_act_586 ?_
      refine zr_iload13 X dL_act_587 ?_
      refine zr_callSX (rm9 := zrm_L_mode) (As := [vr (x) 7, vi ((nI g)), vi ((2 : Int32))]) (st := []) X zmh_L_238 rfl rfl ⟨by decide, Nat.le_of_ble_eq_true rfl⟩ ⟨by decide, by decide⟩ (Nat.le_of_ble_eq_true rfl) dL_act_589 ?_
      obtain ⟨hw153, hf154⟩ := zWd.stn (J := (zput J118 (A (4 + 5 * g)) 0 ((2 : Int32)))) hE hw119 (zgA.put zgA.rf (by unfold zvd; omega)) hM_3
      have hR17 : rMode S (nI g) (2 : Int32) = (0, sG S g 0) ∧ sMode S (nI g) (2 : Int32) = tG S g 0 (2 : Int32) := zR_mode (k := 2) (by omega) (by omega) (by decide) ⟨(zopen_iff (hW.pad g)).mp (Int32.not_lt.mp h15), Or.inl (by decide), Or.inl (by decide)⟩
      refine zL_mode hw153.1 (fun J155 hJ156 => ?_)
      rw [zif_0 hR17.1, zif_0 hR17.1, hR17.2] at hJ156
      obtain ⟨hw157, hf158⟩ := zWd.cls hE hw153 hJ156
      refine zr_eq (x2 := sG S g 0) (zcd_0 hR17.1) ?_
      refine zr_iload15 X dL_act_592 ?_
      refine zr_icmp_ne (tgt := 601) X dL_act_594 (by decide) (fun h18 => ?_) (fun h18 => ?_)
      · exact absurd rfl h18
      · skip
        refine zr_iconst (v := (1 : Int32)) X dL_act_597 (by decide) ?_
        refine zr_goto (tgt := 602) X dL_act_598 (by decide) ?_
        refine zr_iret X (by decide) (by decide) dL_act_602 ?_
        exact k1 _ _ hw157 (hG.mode (v := (2 : Int32)) (Or.inl (by decide)) (Or.inl (by decide))) (zfa.tr (zfa.tr hf120 hf154) hf158)
set_option maxRecDepth 20000 in
theorem za603_0 {l : Launch} {D : va_G} {b0 : Nat} {tA : Nat → ClassId} {sa sv : Nat → Nat} {K : zKt} {I : zI} {Qp : zI → Option AV → Prop} {Xp : String → zI → Prop} {p : Program} {e : Env} {s : State} {m : MethodId} {args : Array Value} {below : List Frame} {meth : Method} {c : Code} {x r f g c9 : Nat} {t : Nat → Nat} {er : Int32} {S : zS} {U : List zS} {A : Nat → Nat} {n7 m7 : Nat}
    (X : zX p l e zrm_L_act s m args below meth c RL cL_act 18 (some .int) D b0 tA sa sv) (hnt : ∀ x ∈ c.exceptionTable.toList, False) (hS : zSh K A n7 m7) (hE : zEn x r A n7 m7) (hw : zWd I x t f er S U A n7 m7 S) (hG : zGp S) (hg : g < n7) (hc : c9 < m7) (k1 : ∀ (J : zI) (S2 : zS), zWd J x t f er S2 (qPush S U) A n7 m7 S2 → zGp S2 → zfa I J x r A n7 m7 → Qp J (some (vi 1))) (k2 : ∀ J : zI, zWd J x t f er S U A n7 m7 S → zfa I J x r A n7 m7 → Qp J (some (vi 2))) :
    zG p l e zrm_L_act s m args below meth c 18 D b0 tA sa 0 0 (zQ below D b0 tA sa K args s zrm_L_act Qp Xp) K 603 [some (vr (x) 7), some (vr (A (0)) 17), some (vr (r) 16), some (vi ((nI g))), some (vi ((nI c9))), some (vi ((0 : Int32))), none, none, none, none, none, none, none, none, none, none, none, none] [] I := by
  have hA := hS.1
  have hM := hw.2
  have hW := hw.1.2.2.2.1
  have hn6 := hM.1.1
  have hm12 := hM.1.2
  have hgn := hM.ng
  have hcm := hM.nc
  have hlen := hW.len
  have hl0 := hlen g 0
  have hl1 := hlen g 1
  refine zr_aload2 X dL_act_603 ?_
  refine zr_iconst (v := (3 : Int32)) X dL_act_604 (by decide) ?_
  refine zr_callVQ (rm9 := zrm_X11_below) (As := [vi ((3 : Int32))]) (st := []) X zm_L_118 rfl rfl ⟨by decide, Nat.le_of_ble_eq_true rfl⟩ ⟨by decide, by decide⟩ (Nat.le_of_ble_eq_true rfl) dL_act_605 ?_
  refine zw_X11_below (b := 3) hE hw (by omega) (by omega) (fun J159 v1 hv2 hw160 hf161 => ?_); rcases (show v1 = 0 ∨ v1 = 1 ∨ v1 = 2 by omega) with rfl | rfl | rfl
  · skip
    refine zr_eq (x2 := (0 : Int32)) rfl ?_
    refine zr_istore16 X (by decide) rfl dL_act_608 ?_
    refine zr_aload0 X dL_act_610 ?_
    refine zr_iload16 X dL_act_611 ?_
    refine zr_callSX (rm9 := zrm_L_key) (As := [vr (x) 7, vi ((0 : Int32))]) (st := []) X zmh_L_240 rfl rfl ⟨by decide, Nat.le_of_ble_eq_true rfl⟩ ⟨by decide, by decide⟩ (Nat.le_of_ble_eq_true rfl) dL_act_613 ?_
    have hR3 : rKey S (0 : Int32) = (0, zkeys (qKey S 0)) ∧ sKey S (0 : Int32) = qKey S 0 := zR_key (k := 0) (by decide)
    refine zL_key hw160.1 (fun J162 hJ163 => ?_)
    rw [zif_0 hR3.1, zif_0 hR3.1, hR3.2] at hJ163
    obtain ⟨hw164, hf165⟩ := zWd.cls hE hw160 hJ163
    refine zr_eq (x2 := zkeys (qKey S 0)) (zcd_0 hR3.1) ?_
    refine zr_aload1 X dL_act_616 ?_
    refine zr_iload16 X dL_act_617 ?_
    refine zr_callVQ (rm9 := zrm_X12_key) (As := [vi ((0 : Int32))]) (st := [vi (zkeys (qKey S 0))]) X zm_L_242 rfl rfl ⟨by decide, Nat.le_of_ble_eq_true rfl⟩ ⟨by decide, by decide⟩ (Nat.le_of_ble_eq_true rfl) dL_act_619 ?_
    refine zp0_X12_key hS hw164.2 hW (fun J166 hg4 hM5 => ?_)
    obtain ⟨hw167, hf168⟩ := zWd.stn hE hw164 hg4 hM5
    refine zr_icmp_ne (tgt := 629) X dL_act_622 (by decide) (fun h6 => ?_) (fun h6 => ?_)
    · exact absurd rfl h6
    · skip
      refine zr_iconst (v := (1 : Int32)) X dL_act_625 (by decide) ?_
      refine zr_goto (tgt := 630) X dL_act_626 (by decide) ?_
      refine zr_iret X (by decide) (by decide) dL_act_630 ?_
      exact k1 _ _ hw167 (hG.kp (zKp.key (by decide))) (zfa.tr (zfa.tr hf161 hf165) hf168)
  · skip
    refine zr_eq (x2 := (1 : Int32)) rfl ?_
    refine zr_istore16 X (by decide) rfl dL_act_608 ?_
    refine zr_aload0 X dL_act_610 ?_
    refine zr_iload16 X dL_act_611 ?_
    refine zr_callSX (rm9 := zrm_L_key) (As := [vr (x) 7, vi ((1 : Int32))]) (st := []) X zmh_L_240 rfl rfl ⟨by decide, Nat.le_of_ble_eq_true rfl⟩ ⟨by decide, by decide⟩ (Nat.le_of_ble_eq_true rfl) dL_act_613 ?_
    have hR7 : rKey S (1 : Int32) = (0, zkeys (qKey S 1)) ∧ sKey S (1 : Int32) = qKey S 1 := zR_key (k := 1) (by decide)
    refine zL_key hw160.1 (fun J169 hJ170 => ?_)
    rw [zif_0 hR7.1, zif_0 hR7.1, hR7.2] at hJ170
    obtain ⟨hw171, hf172⟩ := zWd.cls hE hw160 hJ170
    refine zr_eq (x2 := zkeys (qKey S 1)) (zcd_0 hR7.1) ?_
    refine zr_aload1 X dL_act_616 ?_
    refine zr_iload16 X dL_act_617 ?_
    refine zr_callVQ (rm9 := zrm_X12_key) (As := [vi ((1 : Int32))]) (st := [vi (zkeys (qKey S 1))]) X zm_L_242 rfl rfl ⟨by decide, Nat.le_of_ble_eq_true rfl⟩ ⟨by decide, by decide⟩ (Nat.le_of_ble_eq_true rfl) dL_act_619 ?_
    refine zp1_X12_key hS hw171.2 hW (fun J173 hg8 hM9 => ?_)
    obtain ⟨hw174, hf175⟩ := zWd.stn hE hw171 hg8 hM9
    refine zr_icmp_ne (tgt := 629) X dL_act_622 (by decide) (fun h10 => ?_) (fun h10 => ?_)
    · exact absurd rfl h10
    · skip
      refine zr_iconst (v := (1 : Int32)) X dL_act_625 (by decide) ?_
      refine zr_goto (tgt := 630) X dL_act_626 (by decide) ?_
      refine zr_iret X (by decide) (by decide) dL_act_630 ?_
      exact k1 _ _ hw174 (hG.kp (zKp.key (by decide))) (zfa.tr (zfa.tr hf161 hf172) hf175)
  · skip
    refine zr_eq (x2 := (2 : Int32)) rfl ?_
    refine zr_istore16 X (by decide) rfl dL_act_608 ?_
    refine zr_aload0 X dL_act_610 ?_
    refine zr_iload16 X dL_act_611 ?_
    refine zr_callSX (rm9 := zrm_L_key) (As := [vr (x) 7, vi ((2 : Int32))]) (st := []) X zmh_L_240 rfl rfl ⟨by decide, Nat.le_of_ble_eq_true rfl⟩ ⟨by decide, by decide⟩ (Nat.le_of_ble_eq_true rfl) dL_act_613 ?_
    have hR11 : rKey S (2 : Int32) = (0, zkeys (qKey S 2)) ∧ sKey S (2 : Int32) = qKey S 2 := zR_key (k := 2) (by decide)
    refine zL_key hw160.1 (fun J176 hJ177 => ?_)
    rw [zif_0 hR11.1, zif_0 hR11.1, hR11.2] at hJ177
    obtain ⟨hw178, hf179⟩ := zWd.cls hE hw160 hJ177
    refine zr_eq (x2 := zkeys (qKey S 2)) (zcd_0 hR11.1) ?_
    refine zr_aload1 X dL_act_616 ?_
    refine zr_iload16 X dL_act_617 ?_
    refine zr_callVQ (rm9 := zrm_X12_key) (As := [vi ((2 : Int32))]) (st := [vi (zkeys (qKey S 2))]) X zm_L_242 rfl rfl ⟨by decide, Nat.le_of_ble_eq_true rfl⟩ ⟨by decide, by decide⟩ (Nat.le_of_ble_eq_true rfl) dL_act_619 ?_
    refine zp2_X12_key hS hw178.2 hW (fun J180 hg12 hM13 => ?_)
    obtain ⟨hw181, hf182⟩ := zWd.stn hE hw178 hg12 hM13
    refine zr_icmp_ne (tgt := 629) X dL_act_622 (by decide) (fun h14 => ?_) (fun h14 => ?_)
    · exact absurd rfl h14
    · skip
      refine zr_iconst (v := (1 : Int32)) X dL_act_625 (by decide) ?_
      refine zr_goto (tgt := 630) X dL_act_626 (by decide) ?_
      refine zr_iret X (by decide) (by decide) dL_act_630 ?_
      exact k1 _ _ hw181 (hG.kp (zKp.key (by decide))) (zfa.tr (zfa.tr hf161 hf179) hf182)
set_option maxRecDepth 20000 in
theorem za603_1 {l : Launch} {D : va_G} {b0 : Nat} {tA : Nat → ClassId} {sa sv : Nat → Nat} {K : zKt} {I : zI} {Qp : zI → Option AV → Prop} {Xp : String → zI → Prop} {p : Program} {e : Env} {s : State} {m : MethodId} {args : Array Value} {below : List Frame} {meth : Method} {c : Code} {x r f g c9 : Nat} {t : Nat → Nat} {er : Int32} {S : zS} {U : List zS} {A : Nat → Nat} {n7 m7 : Nat}
    (X : zX p l e zrm_L_act s m args below meth c RL cL_act 18 (some .int) D b0 tA sa sv) (hnt : ∀ x ∈ c.exceptionTable.toList, False) (hS : zSh K A n7 m7) (hE : zEn x r A n7 m7) (hw : zWd I x t f er S U A n7 m7 S) (hG : zGp S) (hg : g < n7) (hc : c9 < m7) (k1 : ∀ (J : zI) (S2 : zS), zWd J x t f er S2 (qPush S U) A n7 m7 S2 → zGp S2 → zfa I J x r A n7 m7 → Qp J (some (vi 1))) (k2 : ∀ J : zI, zWd J x t f er S U A n7 m7 S → zfa I J x r A n7 m7 → Qp J (some (vi 2))) :
    zG p l e zrm_L_act s m args below meth c 18 D b0 tA sa 0 0 (zQ below D b0 tA sa K args s zrm_L_act Qp Xp) K 603 [some (vr (x) 7), some (vr (A (0)) 17), some (vr (r) 16), some (vi ((nI g))), some (vi ((nI c9))), some (vi ((1 : Int32))), none, none, none, none, none, none, none, none, none, none, none, none] [] I := by
  have hA := hS.1
  have hM := hw.2
  have hW := hw.1.2.2.2.1
  have hn6 := hM.1.1
  have hm12 := hM.1.2
  have hgn := hM.ng
  have hcm := hM.nc
  have hlen := hW.len
  have hl0 := hlen g 0
  have hl1 := hlen g 1
  refine zr_aload2 X dL_act_603 ?_
  refine zr_iconst (v := (3 : Int32)) X dL_act_604 (by decide) ?_
  refine zr_callVQ (rm9 := zrm_X11_below) (As := [vi ((3 : Int32))]) (st := []) X zm_L_118 rfl rfl ⟨by decide, Nat.le_of_ble_eq_true rfl⟩ ⟨by decide, by decide⟩ (Nat.le_of_ble_eq_true rfl) dL_act_605 ?_
  refine zw_X11_below (b := 3) hE hw (by omega) (by omega) (fun J183 v1 hv2 hw184 hf185 => ?_); rcases (show v1 = 0 ∨ v1 = 1 ∨ v1 = 2 by omega) with rfl | rfl | rfl
  · skip
    refine zr_eq (x2 := (0 : Int32)) rfl ?_
    refine zr_istore16 X (by decide) rfl dL_act_608 ?_
    refine zr_aload0 X dL_act_610 ?_
    refine zr_iload16 X dL_act_611 ?_
    refine zr_callSX (rm9 := zrm_L_key) (As := [vr (x) 7, vi ((0 : Int32))]) (st := []) X zmh_L_240 rfl rfl ⟨by decide, Nat.le_of_ble_eq_true rfl⟩ ⟨by decide, by decide⟩ (Nat.le_of_ble_eq_true rfl) dL_act_613 ?_
    have hR3 : rKey S (0 : Int32) = (0, zkeys (qKey S 0)) ∧ sKey S (0 : Int32) = qKey S 0 := zR_key (k := 0) (by decide)
    refine zL_key hw184.1 (fun J186 hJ187 => ?_)
    rw [zif_0 hR3.1, zif_0 hR3.1, hR3.2] at hJ187
    obtain ⟨hw188, hf189⟩ := zWd.cls hE hw184 hJ187
    refine zr_eq (x2 := zkeys (qKey S 0)) (zcd_0 hR3.1) ?_
    refine zr_aload1 X dL_act_616 ?_
    refine zr_iload16 X dL_act_617 ?_
    refine zr_callVQ (rm9 := zrm_X12_key) (As := [vi ((0 : Int32))]) (st := [vi (zkeys (qKey S 0))]) X zm_L_242 rfl rfl ⟨by decide, Nat.le_of_ble_eq_true rfl⟩ ⟨by decide, by decide⟩ (Nat.le_of_ble_eq_true rfl) dL_act_619 ?_
    refine zp0_X12_key hS hw188.2 hW (fun J190 hg4 hM5 => ?_)
    obtain ⟨hw191, hf192⟩ := zWd.stn hE hw188 hg4 hM5
    refine zr_icmp_ne (tgt := 629) X dL_act_622 (by decide) (fun h6 => ?_) (fun h6 => ?_)
    · exact absurd rfl h6
    · skip
      refine zr_iconst (v := (1 : Int32)) X dL_act_625 (by decide) ?_
      refine zr_goto (tgt := 630) X dL_act_626 (by decide) ?_
      refine zr_iret X (by decide) (by decide) dL_act_630 ?_
      exact k1 _ _ hw191 (hG.kp (zKp.key (by decide))) (zfa.tr (zfa.tr hf185 hf189) hf192)
  · skip
    refine zr_eq (x2 := (1 : Int32)) rfl ?_
    refine zr_istore16 X (by decide) rfl dL_act_608 ?_
    refine zr_aload0 X dL_act_610 ?_
    refine zr_iload16 X dL_act_611 ?_
    refine zr_callSX (rm9 := zrm_L_key) (As := [vr (x) 7, vi ((1 : Int32))]) (st := []) X zmh_L_240 rfl rfl ⟨by decide, Nat.le_of_ble_eq_true rfl⟩ ⟨by decide, by decide⟩ (Nat.le_of_ble_eq_true rfl) dL_act_613 ?_
    have hR7 : rKey S (1 : Int32) = (0, zkeys (qKey S 1)) ∧ sKey S (1 : Int32) = qKey S 1 := zR_key (k := 1) (by decide)
    refine zL_key hw184.1 (fun J193 hJ194 => ?_)
    rw [zif_0 hR7.1, zif_0 hR7.1, hR7.2] at hJ194
    obtain ⟨hw195, hf196⟩ := zWd.cls hE hw184 hJ194
    refine zr_eq (x2 := zkeys (qKey S 1)) (zcd_0 hR7.1) ?_
    refine zr_aload1 X dL_act_616 ?_
    refine zr_iload16 X dL_act_617 ?_
    refine zr_callVQ (rm9 := zrm_X12_key) (As := [vi ((1 : Int32))]) (st := [vi (zkeys (qKey S 1))]) X zm_L_242 rfl rfl ⟨by decide, Nat.le_of_ble_eq_true rfl⟩ ⟨by decide, by decide⟩ (Nat.le_of_ble_eq_true rfl) dL_act_619 ?_
    refine zp1_X12_key hS hw195.2 hW (fun J197 hg8 hM9 => ?_)
    obtain ⟨hw198, hf199⟩ := zWd.stn hE hw195 hg8 hM9
    refine zr_icmp_ne (tgt := 629) X dL_act_622 (by decide) (fun h10 => ?_) (fun h10 => ?_)
    · exact absurd rfl h10
    · skip
      refine zr_iconst (v := (1 : Int32)) X dL_act_625 (by decide) ?_
      refine zr_goto (tgt := 630) X dL_act_626 (by decide) ?_
      refine zr_iret X (by decide) (by decide) dL_act_630 ?_
      exact k1 _ _ hw198 (hG.kp (zKp.key (by decide))) (zfa.tr (zfa.tr hf185 hf196) hf199)
  · skip
    refine zr_eq (x2 := (2 : Int32)) rfl ?_
    refine zr_istore16 X (by decide) rfl dL_act_608 ?_
    refine zr_aload0 X dL_act_610 ?_
    refine zr_iload16 X dL_act_611 ?_
    refine zr_callSX (rm9 := zrm_L_key) (As := [vr (x) 7, vi ((2 : Int32))]) (st := []) X zmh_L_240 rfl rfl ⟨by decide, Nat.le_of_ble_eq_true rfl⟩ ⟨by decide, by decide⟩ (Nat.le_of_ble_eq_true rfl) dL_act_613 ?_
    have hR11 : rKey S (2 : Int32) = (0, zkeys (qKey S 2)) ∧ sKey S (2 : Int32) = qKey S 2 := zR_key (k := 2) (by decide)
    refine zL_key hw184.1 (fun J200 hJ201 => ?_)
    rw [zif_0 hR11.1, zif_0 hR11.1, hR11.2] at hJ201
    obtain ⟨hw202, hf203⟩ := zWd.cls hE hw184 hJ201
    refine zr_eq (x2 := zkeys (qKey S 2)) (zcd_0 hR11.1) ?_
    refine zr_aload1 X dL_act_616 ?_
    refine zr_iload16 X dL_act_617 ?_
    refine zr_callVQ (rm9 := zrm_X12_key) (As := [vi ((2 : Int32))]) (st := [vi (zkeys (qKey S 2))]) X zm_L_242 rfl rfl ⟨by decide, Nat.le_of_ble_eq_true rfl⟩ ⟨by decide, by decide⟩ (Nat.le_of_ble_eq_true rfl) dL_act_619 ?_
    refine zp2_X12_key hS hw202.2 hW (fun J204 hg12 hM13 => ?_)
    obtain ⟨hw205, hf206⟩ := zWd.stn hE hw202 hg12 hM13
    refine zr_icmp_ne (tgt := 629) X dL_act_622 (by decide) (fun h14 => ?_) (fun h14 => ?_)
    · exact absurd rfl h14
    · skip
      refine zr_iconst (v := (1 : Int32)) X dL_act_625 (by decide) ?_
      refine zr_goto (tgt := 630) X dL_act_626 (by decide) ?_
      refine zr_iret X (by decide) (by decide) dL_act_630 ?_
      exact k1 _ _ hw205 (hG.kp (zKp.key (by decide))) (zfa.tr (zfa.tr hf185 hf203) hf206)
set_option maxRecDepth 20000 in
theorem za631_0 {l : Launch} {D : va_G} {b0 : Nat} {tA : Nat → ClassId} {sa sv : Nat → Nat} {K : zKt} {I : zI} {Qp : zI → Option AV → Prop} {Xp : String → zI → Prop} {p : Program} {e : Env} {s : State} {m : MethodId} {args : Array Value} {below : List Frame} {meth : Method} {c : Code} {x r f g c9 : Nat} {t : Nat → Nat} {er : Int32} {S : zS} {U : List zS} {A : Nat → Nat} {n7 m7 : Nat}
    (X : zX p l e zrm_L_act s m args below meth c RL cL_act 18 (some .int) D b0 tA sa sv) (hnt : ∀ x ∈ c.exceptionTable.toList, False) (hS : zSh K A n7 m7) (hE : zEn x r A n7 m7) (hw : zWd I x t f er S U A n7 m7 S) (hG : zGp S) (hg : g < n7) (hc : c9 < m7) (k1 : ∀ (J : zI) (S2 : zS), zWd J x t f er S2 (qPush S U) A n7 m7 S2 → zGp S2 → zfa I J x r A n7 m7 → Qp J (some (vi 1))) (k2 : ∀ J : zI, zWd J x t f er S U A n7 m7 S → zfa I J x r A n7 m7 → Qp J (some (vi 2))) :
    zG p l e zrm_L_act s m args below meth c 18 D b0 tA sa 0 0 (zQ below D b0 tA sa K args s zrm_L_act Qp Xp) K 631 [some (vr (x) 7), some (vr (A (0)) 17), some (vr (r) 16), some (vi ((nI g))), some (vi ((nI c9))), some (vi ((0 : Int32))), none, none, none, none, none, none, none, none, none, none, none, none] [] I := by
  have hA := hS.1
  have hM := hw.2
  have hW := hw.1.2.2.2.1
  have hn6 := hM.1.1
  have hm12 := hM.1.2
  have hgn := hM.ng
  have hcm := hM.nc
  have hlen := hW.len
  have hl0 := hlen g 0
  have hl1 := hlen g 1
  refine zr_iconst (v := (1 : Int32)) X dL_act_631 (by decide) ?_
  refine zr_aload2 X dL_act_632 ?_
  refine zr_aload2 X dL_act_633 ?_
  refine zr_iconst (v := (4 : Int32)) X dL_act_634 (by decide) ?_
  refine zr_callVQ (rm9 := zrm_X11_below) (As := [vi ((4 : Int32))]) (st := [vr (r) 16, vi ((1 : Int32))]) X zm_L_118 rfl rfl ⟨by decide, Nat.le_of_ble_eq_true rfl⟩ ⟨by decide, by decide⟩ (Nat.le_of_ble_eq_true rfl) dL_act_635 ?_
  refine zw_X11_below (b := 4) hE hw (by omega) (by omega) (fun J207 v1 hv2 hw208 hf209 => ?_)
  refine zr_nif_ne X (v1) (tgt := 646) (by omega) dL_act_638 (by decide) (fun h3 => ?_) (fun h3 => ?_)
  · skip
    refine zr_iconst (v := (3 : Int32)) X dL_act_646 (by decide) ?_
    refine zr_callVQ (rm9 := zrm_X11_below) (As := [vi ((3 : Int32))]) (st := [vi ((1 : Int32))]) X zm_L_118 rfl rfl ⟨by decide, Nat.le_of_ble_eq_true rfl⟩ ⟨by decide, by decide⟩ (Nat.le_of_ble_eq_true rfl) dL_act_647 ?_
    refine zw_X11_below (b := 3) hE hw208 (by omega) (by omega) (fun J210 v4 hv5 hw211 hf212 => ?_)
    refine zr_iadd X dL_act_650 ?_
    refine zr_eq (x2 := (nI (1 + v4))) (nI_add (1) (v4)) ?_
    refine zr_istore17 X (by decide) rfl dL_act_651 ?_
    refine zr_aload0 X dL_act_653 ?_
    refine zr_iload17 X dL_act_654 ?_
    refine zr_callSX (rm9 := zrm_L_tick) (As := [vr (x) 7, vi ((nI (1 + v4)))]) (st := []) X zmh_L_243 rfl rfl ⟨by decide, Nat.le_of_ble_eq_true rfl⟩ ⟨by decide, by decide⟩ (Nat.le_of_ble_eq_true rfl) dL_act_656 ?_
    have hR6 : rTick S (nI (1 + v4)) = (0, sX (qTicks S (1 + v4)) 9 + sX (qTicks S (1 + v4)) 10 - (sX S 9 + sX S 10)) ∧ sTick S (nI (1 + v4)) = qTicks S (1 + v4) := zR_tick (by omega) (by omega)
    refine zL_tick hw211.1 (fun J213 hJ214 => ?_)
    rw [zif_0 hR6.1, zif_0 hR6.1, hR6.2] at hJ214
    obtain ⟨hw215, hf216⟩ := zWd.cls hE hw211 hJ214
    refine zr_eq (x2 := sX (qTicks S (1 + v4)) 9 + sX (qTicks S (1 + v4)) 10 - (sX S 9 + sX S 10)) (zcd_0 hR6.1) ?_
    refine zr_aload1 X dL_act_659 ?_
    refine zr_iload17 X dL_act_660 ?_
    refine zr_callVQ (rm9 := zrm_X12_tick) (As := [vi ((nI (1 + v4)))]) (st := [vi (sX (qTicks S (1 + v4)) 9 + sX (qTicks S (1 + v4)) 10 - (sX S 9 + sX S 10))]) X zm_L_192 rfl rfl ⟨by decide, Nat.le_of_ble_eq_true rfl⟩ ⟨by decide, by decide⟩ (Nat.le_of_ble_eq_true rfl) dL_act_662 ?_
    refine zp_X12_tick (m9 := (1 + v4)) hS hw215.2 hW (by omega) (fun J217 hg7 hM8 => ?_)
    obtain ⟨hw218, hf219⟩ := zWd.stn hE hw215 hg7 hM8
    refine zr_icmp_ne (tgt := 672) X dL_act_665 (by decide) (fun h9 => ?_) (fun h9 => ?_)
    · exact absurd rfl h9
    · skip
      refine zr_iconst (v := (1 : Int32)) X dL_act_668 (by decide) ?_
      refine zr_goto (tgt := 673) X dL_act_669 (by decide) ?_
      refine zr_iret X (by decide) (by decide) dL_act_673 ?_
      exact k1 _ _ hw218 (hG.kp (zKp.ticks _)) (zfa.tr (zfa.tr (zfa.tr hf209 hf212) hf216) hf219)
  · skip
    refine zr_bipush (v := (20 : Int32)) X dL_act_641 (by decide) ?_
    refine zr_goto (tgt := 647) X dL_act_643 (by decide) ?_
    refine zr_callVQ (rm9 := zrm_X11_below) (As := [vi ((20 : Int32))]) (st := [vi ((1 : Int32))]) X zm_L_118 rfl rfl ⟨by decide, Nat.le_of_ble_eq_true rfl⟩ ⟨by decide, by decide⟩ (Nat.le_of_ble_eq_true rfl) dL_act_647 ?_
    refine zw_X11_below (b := 20) hE hw208 (by omega) (by omega) (fun J220 v10 hv11 hw221 hf222 => ?_)
    refine zr_iadd X dL_act_650 ?_
    refine zr_eq (x2 := (nI (1 + v10))) (nI_add (1) (v10)) ?_
    refine zr_istore17 X (by decide) rfl dL_act_651 ?_
    refine zr_aload0 X dL_act_653 ?_
    refine zr_iload17 X dL_act_654 ?_
    refine zr_callSX (rm9 := zrm_L_tick) (As := [vr (x) 7, vi ((nI (1 + v10)))]) (st := []) X zmh_L_243 rfl rfl ⟨by decide, Nat.le_of_ble_eq_true rfl⟩ ⟨by decide, by decide⟩ (Nat.le_of_ble_eq_true rfl) dL_act_656 ?_
    have hR12 : rTick S (nI (1 + v10)) = (0, sX (qTicks S (1 + v10)) 9 + sX (qTicks S (1 + v10)) 10 - (sX S 9 + sX S 10)) ∧ sTick S (nI (1 + v10)) = qTicks S (1 + v10) := zR_tick (by omega) (by omega)
    refine zL_tick hw221.1 (fun J223 hJ224 => ?_)
    rw [zif_0 hR12.1, zif_0 hR12.1, hR12.2] at hJ224
    obtain ⟨hw225, hf226⟩ := zWd.cls hE hw221 hJ224
    refine zr_eq (x2 := sX (qTicks S (1 + v10)) 9 + sX (qTicks S (1 + v10)) 10 - (sX S 9 + sX S 10)) (zcd_0 hR12.1) ?_
    refine zr_aload1 X dL_act_659 ?_
    refine zr_iload17 X dL_act_660 ?_
    refine zr_callVQ (rm9 := zrm_X12_tick) (As := [vi ((nI (1 + v10)))]) (st := [vi (sX (qTicks S (1 + v10)) 9 + sX (qTicks S (1 + v10)) 10 - (sX S 9 + sX S 10))]) X zm_L_192 rfl rfl ⟨by decide, Nat.le_of_ble_eq_true rfl⟩ ⟨by decide, by decide⟩ (Nat.le_of_ble_eq_true rfl) dL_act_662 ?_
    refine zp_X12_tick (m9 := (1 + v10)) hS hw225.2 hW (by omega) (fun J227 hg13 hM14 => ?_)
    obtain ⟨hw228, hf229⟩ := zWd.stn hE hw225 hg13 hM14
    refine zr_icmp_ne (tgt := 672) X dL_act_665 (by decide) (fun h15 => ?_) (fun h15 => ?_)
    · exact absurd rfl h15
    · skip
      refine zr_iconst (v := (1 : Int32)) X dL_act_668 (by decide) ?_
      refine zr_goto (tgt := 673) X dL_act_669 (by decide) ?_
      refine zr_iret X (by decide) (by decide) dL_act_673 ?_
      exact k1 _ _ hw228 (hG.kp (zKp.ticks _)) (zfa.tr (zfa.tr (zfa.tr hf209 hf222) hf226) hf229)
set_option maxRecDepth 20000 in
theorem za631_1 {l : Launch} {D : va_G} {b0 : Nat} {tA : Nat → ClassId} {sa sv : Nat → Nat} {K : zKt} {I : zI} {Qp : zI → Option AV → Prop} {Xp : String → zI → Prop} {p : Program} {e : Env} {s : State} {m : MethodId} {args : Array Value} {below : List Frame} {meth : Method} {c : Code} {x r f g c9 : Nat} {t : Nat → Nat} {er : Int32} {S : zS} {U : List zS} {A : Nat → Nat} {n7 m7 : Nat}
    (X : zX p l e zrm_L_act s m args below meth c RL cL_act 18 (some .int) D b0 tA sa sv) (hnt : ∀ x ∈ c.exceptionTable.toList, False) (hS : zSh K A n7 m7) (hE : zEn x r A n7 m7) (hw : zWd I x t f er S U A n7 m7 S) (hG : zGp S) (hg : g < n7) (hc : c9 < m7) (k1 : ∀ (J : zI) (S2 : zS), zWd J x t f er S2 (qPush S U) A n7 m7 S2 → zGp S2 → zfa I J x r A n7 m7 → Qp J (some (vi 1))) (k2 : ∀ J : zI, zWd J x t f er S U A n7 m7 S → zfa I J x r A n7 m7 → Qp J (some (vi 2))) :
    zG p l e zrm_L_act s m args below meth c 18 D b0 tA sa 0 0 (zQ below D b0 tA sa K args s zrm_L_act Qp Xp) K 631 [some (vr (x) 7), some (vr (A (0)) 17), some (vr (r) 16), some (vi ((nI g))), some (vi ((nI c9))), some (vi ((1 : Int32))), none, none, none, none, none, none, none, none, none, none, none, none] [] I := by
  have hA := hS.1
  have hM := hw.2
  have hW := hw.1.2.2.2.1
  have hn6 := hM.1.1
  have hm12 := hM.1.2
  have hgn := hM.ng
  have hcm := hM.nc
  have hlen := hW.len
  have hl0 := hlen g 0
  have hl1 := hlen g 1
  refine zr_iconst (v := (1 : Int32)) X dL_act_631 (by decide) ?_
  refine zr_aload2 X dL_act_632 ?_
  refine zr_aload2 X dL_act_633 ?_
  refine zr_iconst (v := (4 : Int32)) X dL_act_634 (by decide) ?_
  refine zr_callVQ (rm9 := zrm_X11_below) (As := [vi ((4 : Int32))]) (st := [vr (r) 16, vi ((1 : Int32))]) X zm_L_118 rfl rfl ⟨by decide, Nat.le_of_ble_eq_true rfl⟩ ⟨by decide, by decide⟩ (Nat.le_of_ble_eq_true rfl) dL_act_635 ?_
  refine zw_X11_below (b := 4) hE hw (by omega) (by omega) (fun J230 v1 hv2 hw231 hf232 => ?_)
  refine zr_nif_ne X (v1) (tgt := 646) (by omega) dL_act_638 (by decide) (fun h3 => ?_) (fun h3 => ?_)
  · skip
    refine zr_iconst (v := (3 : Int32)) X dL_act_646 (by decide) ?_
    refine zr_callVQ (rm9 := zrm_X11_below) (As := [vi ((3 : Int32))]) (st := [vi ((1 : Int32))]) X zm_L_118 rfl rfl ⟨by decide, Nat.le_of_ble_eq_true rfl⟩ ⟨by decide, by decide⟩ (Nat.le_of_ble_eq_true rfl) dL_act_647 ?_
    refine zw_X11_below (b := 3) hE hw231 (by omega) (by omega) (fun J233 v4 hv5 hw234 hf235 => ?_)
    refine zr_iadd X dL_act_650 ?_
    refine zr_eq (x2 := (nI (1 + v4))) (nI_add (1) (v4)) ?_
    refine zr_istore17 X (by decide) rfl dL_act_651 ?_
    refine zr_aload0 X dL_act_653 ?_
    refine zr_iload17 X dL_act_654 ?_
    refine zr_callSX (rm9 := zrm_L_tick) (As := [vr (x) 7, vi ((nI (1 + v4)))]) (st := []) X zmh_L_243 rfl rfl ⟨by decide, Nat.le_of_ble_eq_true rfl⟩ ⟨by decide, by decide⟩ (Nat.le_of_ble_eq_true rfl) dL_act_656 ?_
    have hR6 : rTick S (nI (1 + v4)) = (0, sX (qTicks S (1 + v4)) 9 + sX (qTicks S (1 + v4)) 10 - (sX S 9 + sX S 10)) ∧ sTick S (nI (1 + v4)) = qTicks S (1 + v4) := zR_tick (by omega) (by omega)
    refine zL_tick hw234.1 (fun J236 hJ237 => ?_)
    rw [zif_0 hR6.1, zif_0 hR6.1, hR6.2] at hJ237
    obtain ⟨hw238, hf239⟩ := zWd.cls hE hw234 hJ237
    refine zr_eq (x2 := sX (qTicks S (1 + v4)) 9 + sX (qTicks S (1 + v4)) 10 - (sX S 9 + sX S 10)) (zcd_0 hR6.1) ?_
    refine zr_aload1 X dL_act_659 ?_
    refine zr_iload17 X dL_act_660 ?_
    refine zr_callVQ (rm9 := zrm_X12_tick) (As := [vi ((nI (1 + v4)))]) (st := [vi (sX (qTicks S (1 + v4)) 9 + sX (qTicks S (1 + v4)) 10 - (sX S 9 + sX S 10))]) X zm_L_192 rfl rfl ⟨by decide, Nat.le_of_ble_eq_true rfl⟩ ⟨by decide, by decide⟩ (Nat.le_of_ble_eq_true rfl) dL_act_662 ?_
    refine zp_X12_tick (m9 := (1 + v4)) hS hw238.2 hW (by omega) (fun J240 hg7 hM8 => ?_)
    obtain ⟨hw241, hf242⟩ := zWd.stn hE hw238 hg7 hM8
    refine zr_icmp_ne (tgt := 672) X dL_act_665 (by decide) (fun h9 => ?_) (fun h9 => ?_)
    · exact absurd rfl h9
    · skip
      refine zr_iconst (v := (1 : Int32)) X dL_act_668 (by decide) ?_
      refine zr_goto (tgt := 673) X dL_act_669 (by decide) ?_
      refine zr_iret X (by decide) (by decide) dL_act_673 ?_
      exact k1 _ _ hw241 (hG.kp (zKp.ticks _)) (zfa.tr (zfa.tr (zfa.tr hf232 hf235) hf239) hf242)
  · skip
    refine zr_bipush (v := (20 : Int32)) X dL_act_641 (by decide) ?_
    refine zr_goto (tgt := 647) X dL_act_643 (by decide) ?_
    refine zr_callVQ (rm9 := zrm_X11_below) (As := [vi ((20 : Int32))]) (st := [vi ((1 : Int32))]) X zm_L_118 rfl rfl ⟨by decide, Nat.le_of_ble_eq_true rfl⟩ ⟨by decide, by decide⟩ (Nat.le_of_ble_eq_true rfl) dL_act_647 ?_
    refine zw_X11_below (b := 20) hE hw231 (by omega) (by omega) (fun J243 v10 hv11 hw244 hf245 => ?_)
    refine zr_iadd X dL_act_650 ?_
    refine zr_eq (x2 := (nI (1 + v10))) (nI_add (1) (v10)) ?_
    refine zr_istore17 X (by decide) rfl dL_act_651 ?_
    refine zr_aload0 X dL_act_653 ?_
    refine zr_iload17 X dL_act_654 ?_
    refine zr_callSX (rm9 := zrm_L_tick) (As := [vr (x) 7, vi ((nI (1 + v10)))]) (st := []) X zmh_L_243 rfl rfl ⟨by decide, Nat.le_of_ble_eq_true rfl⟩ ⟨by decide, by decide⟩ (Nat.le_of_ble_eq_true rfl) dL_act_656 ?_
    have hR12 : rTick S (nI (1 + v10)) = (0, sX (qTicks S (1 + v10)) 9 + sX (qTicks S (1 + v10)) 10 - (sX S 9 + sX S 10)) ∧ sTick S (nI (1 + v10)) = qTicks S (1 + v10) := zR_tick (by omega) (by omega)
    refine zL_tick hw244.1 (fun J246 hJ247 => ?_)
    rw [zif_0 hR12.1, zif_0 hR12.1, hR12.2] at hJ247
    obtain ⟨hw248, hf249⟩ := zWd.cls hE hw244 hJ247
    refine zr_eq (x2 := sX (qTicks S (1 + v10)) 9 + sX (qTicks S (1 + v10)) 10 - (sX S 9 + sX S 10)) (zcd_0 hR12.1) ?_
    refine zr_aload1 X dL_act_659 ?_
    refine zr_iload17 X dL_act_660 ?_
    refine zr_callVQ (rm9 := zrm_X12_tick) (As := [vi ((nI (1 + v10)))]) (st := [vi (sX (qTicks S (1 + v10)) 9 + sX (qTicks S (1 + v10)) 10 - (sX S 9 + sX S 10))]) X zm_L_192 rfl rfl ⟨by decide, Nat.le_of_ble_eq_true rfl⟩ ⟨by decide, by decide⟩ (Nat.le_of_ble_eq_true rfl) dL_act_662 ?_
    refine zp_X12_tick (m9 := (1 + v10)) hS hw248.2 hW (by omega) (fun J250 hg13 hM14 => ?_)
    obtain ⟨hw251, hf252⟩ := zWd.stn hE hw248 hg13 hM14
    refine zr_icmp_ne (tgt := 672) X dL_act_665 (by decide) (fun h15 => ?_) (fun h15 => ?_)
    · exact absurd rfl h15
    · skip
      refine zr_iconst (v := (1 : Int32)) X dL_act_668 (by decide) ?_
      refine zr_goto (tgt := 673) X dL_act_669 (by decide) ?_
      refine zr_iret X (by decide) (by decide) dL_act_673 ?_
      exact k1 _ _ hw251 (hG.kp (zKp.ticks _)) (zfa.tr (zfa.tr (zfa.tr hf232 hf245) hf249) hf252)
set_option maxRecDepth 20000 in
theorem zp_L_act {l : Launch} {D : va_G} {b0 : Nat} {tA : Nat → ClassId} {sa sv : Nat → Nat} {K : zKt} {I : zI} {Qp : zI → Option AV → Prop} {Xp : String → zI → Prop} {x r f : Nat} {t : Nat → Nat} {er : Int32} {S : zS} {U : List zS} {A : Nat → Nat} {n7 m7 : Nat}
    (hS : zSh K A n7 m7) (hE : zEn x r A n7 m7) (hw : zWd I x t f er S U A n7 m7 S) (hG : zGp S) (hn1 : 0 < n7) (hm1 : 0 < m7) (k1 : ∀ (J : zI) (S2 : zS), zWd J x t f er S2 (qPush S U) A n7 m7 S2 → zGp S2 → zfa I J x r A n7 m7 → Qp J (some (vi 1))) (k2 : ∀ J : zI, zWd J x t f er S U A n7 m7 S → zfa I J x r A n7 m7 → Qp J (some (vi 2))) :
    zC l D b0 tA sa sv K yL_act (.code yL_act cL_act 18 (some .int)) zrm_L_act [vr (x) 7, vr (A (0)) 17, vr (r) 16] I Qp Xp := by
  have hA := hS.1
  have hM := hw.2
  have hW := hw.1.2.2.2.1
  have hn6 := hM.1.1
  have hm12 := hM.1.2
  have hgn := hM.ng
  have hcm := hM.nc
  have hlen := hW.len
  refine zC_of (by decide +kernel) (Nat.le_of_ble_eq_true rfl) ?_
  intro p e s m args below meth c X hnt
  have X : zX p l e zrm_L_act s m args below meth c RL cL_act 18 (some .int) D b0 tA sa sv := X
  refine zr_lv (lv2 := [some (vr (x) 7), some (vr (A (0)) 17), some (vr (r) 16), none, none, none, none, none, none, none, none, none, none, none, none, none, none, none]) rfl ?_
  refine zr_aload2 X dL_act_0 ?_
  refine zr_aload1 X dL_act_1 ?_
  refine zr_getI X zf_L_143 rfl dL_act_2 ?_
  refine zr_eq (x2 := (nI n7)) ((hw.2.2.2.1 4 (by decide) (by decide)).trans hw.2.2.1.1) ?_
  refine zr_callVQ (rm9 := zrm_X11_below) (As := [vi ((nI n7))]) (st := []) X zm_L_118 rfl rfl ⟨by decide, Nat.le_of_ble_eq_true rfl⟩ ⟨by decide, by decide⟩ (Nat.le_of_ble_eq_true rfl) dL_act_5 ?_
  refine zw_X11_below (b := n7) hE hw (by omega) (by omega) (fun J253 v1 hv2 hw254 hf255 => ?_)
  refine zr_istore3 X (by decide) rfl dL_act_8 ?_
  refine zr_aload2 X dL_act_9 ?_
  refine zr_aload1 X dL_act_10 ?_
  refine zr_getI X zf_L_163 rfl dL_act_11 ?_
  refine zr_eq (x2 := (nI m7)) ((hw254.2.2.2.1 5 (by decide) (by decide)).trans hw254.2.2.1.2) ?_
  refine zr_callVQ (rm9 := zrm_X11_below) (As := [vi ((nI m7))]) (st := []) X zm_L_118 rfl rfl ⟨by decide, Nat.le_of_ble_eq_true rfl⟩ ⟨by decide, by decide⟩ (Nat.le_of_ble_eq_true rfl) dL_act_14 ?_
  refine zw_X11_below (b := m7) hE hw254 (by omega) (by omega) (fun J256 v3 hv4 hw257 hf258 => ?_)
  refine zr_istore4 X (by decide) rfl dL_act_17 ?_
  refine zr_aload2 X dL_act_19 ?_
  refine zr_iconst (v := (2 : Int32)) X dL_act_20 (by decide) ?_
  refine zr_callVQ (rm9 := zrm_X11_below) (As := [vi ((2 : Int32))]) (st := []) X zm_L_118 rfl rfl ⟨by decide, Nat.le_of_ble_eq_true rfl⟩ ⟨by decide, by decide⟩ (Nat.le_of_ble_eq_true rfl) dL_act_21 ?_
  refine zw_X11_below (b := 2) hE hw257 (by omega) (by omega) (fun J259 v5 hv6 hw260 hf261 => ?_); rcases (show v5 = 0 ∨ v5 = 1 by omega) with rfl | rfl
  · skip
    refine zr_eq (x2 := (0 : Int32)) rfl ?_
    refine zr_istore5 X (by decide) rfl dL_act_24 ?_
    refine zr_aload2 X dL_act_26 ?_
    refine zr_bipush (v := (16 : Int32)) X dL_act_27 (by decide) ?_
    refine zr_callVQ (rm9 := zrm_X11_below) (As := [vi ((16 : Int32))]) (st := []) X zm_L_118 rfl rfl ⟨by decide, Nat.le_of_ble_eq_true rfl⟩ ⟨by decide, by decide⟩ (Nat.le_of_ble_eq_true rfl) dL_act_29 ?_
    refine zw_X11_below (b := 16) hE hw260 (by omega) (by omega) (fun J262 v7 hv8 hw263 hf264 => ?_)
    have h88 := za88_0 (Xp := Xp) X hnt hS hE hw263 hG (by omega) (by omega) (fun J S2 h1 h2 h3 => k1 J S2 h1 h2 (zfa.tr (zfa.tr (zfa.tr (zfa.tr hf255 hf258) hf261) hf264) h3)) (fun J h1 h2 => k2 J h1 (zfa.tr (zfa.tr (zfa.tr (zfa.tr hf255 hf258) hf261) hf264) h2))
    have h169 := za169_0 (Xp := Xp) X hnt hS hE hw263 hG (by omega) (by omega) (fun J S2 h1 h2 h3 => k1 J S2 h1 h2 (zfa.tr (zfa.tr (zfa.tr (zfa.tr hf255 hf258) hf261) hf264) h3)) (fun J h1 h2 => k2 J h1 (zfa.tr (zfa.tr (zfa.tr (zfa.tr hf255 hf258) hf261) hf264) h2))
    have h307 := za307_0 (Xp := Xp) X hnt hS hE hw263 hG (by omega) (by omega) (fun J S2 h1 h2 h3 => k1 J S2 h1 h2 (zfa.tr (zfa.tr (zfa.tr (zfa.tr hf255 hf258) hf261) hf264) h3))
    have h394 := za394_0 (Xp := Xp) X hnt hS hE hw263 hG (by omega) (by omega) (fun J S2 h1 h2 h3 => k1 J S2 h1 h2 (zfa.tr (zfa.tr (zfa.tr (zfa.tr hf255 hf258) hf261) hf264) h3)) (fun J h1 h2 => k2 J h1 (zfa.tr (zfa.tr (zfa.tr (zfa.tr hf255 hf258) hf261) hf264) h2))
    have h497 := za497_0 (Xp := Xp) X hnt hS hE hw263 hG (by omega) (by omega) (fun J S2 h1 h2 h3 => k1 J S2 h1 h2 (zfa.tr (zfa.tr (zfa.tr (zfa.tr hf255 hf258) hf261) hf264) h3)) (fun J h1 h2 => k2 J h1 (zfa.tr (zfa.tr (zfa.tr (zfa.tr hf255 hf258) hf261) hf264) h2))
    have h603 := za603_0 (Xp := Xp) X hnt hS hE hw263 hG (by omega) (by omega) (fun J S2 h1 h2 h3 => k1 J S2 h1 h2 (zfa.tr (zfa.tr (zfa.tr (zfa.tr hf255 hf258) hf261) hf264) h3)) (fun J h1 h2 => k2 J h1 (zfa.tr (zfa.tr (zfa.tr (zfa.tr hf255 hf258) hf261) hf264) h2))
    have h631 := za631_0 (Xp := Xp) X hnt hS hE hw263 hG (by omega) (by omega) (fun J S2 h1 h2 h3 => k1 J S2 h1 h2 (zfa.tr (zfa.tr (zfa.tr (zfa.tr hf255 hf258) hf261) hf264) h3)) (fun J h1 h2 => k2 J h1 (zfa.tr (zfa.tr (zfa.tr (zfa.tr hf255 hf258) hf261) hf264) h2))
    rcases (show v7 = 0 ∨ v7 = 1 ∨ v7 = 2 ∨ v7 = 3 ∨ v7 = 4 ∨ v7 = 5 ∨ v7 = 6 ∨ v7 = 7 ∨ v7 = 8 ∨ v7 = 9 ∨ v7 = 10 ∨ v7 = 11 ∨ v7 = 12 ∨ v7 = 13 ∨ v7 = 14 ∨ v7 = 15 by omega) with rfl | rfl | rfl | rfl | rfl | rfl | rfl | rfl | rfl | rfl | rfl | rfl | rfl | rfl | rfl | rfl
    · refine zr_eq (x2 := (0 : Int32)) rfl ?_
      refine zr_tblIn (off := 56) (tgt := 88) X dL_act_32 (by decide) (by decide) (by decide) (by decide) ?_
      exact h88
    · refine zr_eq (x2 := (1 : Int32)) rfl ?_
      refine zr_tblIn (off := 56) (tgt := 88) X dL_act_32 (by decide) (by decide) (by decide) (by decide) ?_
      exact h88
    · refine zr_eq (x2 := (2 : Int32)) rfl ?_
      refine zr_tblIn (off := 56) (tgt := 88) X dL_act_32 (by decide) (by decide) (by decide) (by decide) ?_
      exact h88
    · refine zr_eq (x2 := (3 : Int32)) rfl ?_
      refine zr_tblIn (off := 56) (tgt := 88) X dL_act_32 (by decide) (by decide) (by decide) (by decide) ?_
      exact h88
    · refine zr_eq (x2 := (4 : Int32)) rfl ?_
      refine zr_tblIn (off := 56) (tgt := 88) X dL_act_32 (by decide) (by decide) (by decide) (by decide) ?_
      exact h88
    · refine zr_eq (x2 := (5 : Int32)) rfl ?_
      refine zr_tblIn (off := 137) (tgt := 169) X dL_act_32 (by decide) (by decide) (by decide) (by decide) ?_
      exact h169
    · refine zr_eq (x2 := (6 : Int32)) rfl ?_
      refine zr_tblIn (off := 275) (tgt := 307) X dL_act_32 (by decide) (by decide) (by decide) (by decide) ?_
      exact h307
    · refine zr_eq (x2 := (7 : Int32)) rfl ?_
      refine zr_tblIn (off := 362) (tgt := 394) X dL_act_32 (by decide) (by decide) (by decide) (by decide) ?_
      exact h394
    · refine zr_eq (x2 := (8 : Int32)) rfl ?_
      refine zr_tblIn (off := 465) (tgt := 497) X dL_act_32 (by decide) (by decide) (by decide) (by decide) ?_
      exact h497
    · refine zr_eq (x2 := (9 : Int32)) rfl ?_
      refine zr_tblIn (off := 571) (tgt := 603) X dL_act_32 (by decide) (by decide) (by decide) (by decide) ?_
      exact h603
    · refine zr_eq (x2 := (10 : Int32)) rfl ?_
      refine zr_tblOut (tgt := 631) X dL_act_32 (by decide) (by decide) ?_
      exact h631
    · refine zr_eq (x2 := (11 : Int32)) rfl ?_
      refine zr_tblOut (tgt := 631) X dL_act_32 (by decide) (by decide) ?_
      exact h631
    · refine zr_eq (x2 := (12 : Int32)) rfl ?_
      refine zr_tblOut (tgt := 631) X dL_act_32 (by decide) (by decide) ?_
      exact h631
    · refine zr_eq (x2 := (13 : Int32)) rfl ?_
      refine zr_tblOut (tgt := 631) X dL_act_32 (by decide) (by decide) ?_
      exact h631
    · refine zr_eq (x2 := (14 : Int32)) rfl ?_
      refine zr_tblOut (tgt := 631) X dL_act_32 (by decide) (by decide) ?_
      exact h631
    · refine zr_eq (x2 := (15 : Int32)) rfl ?_
      refine zr_tblOut (tgt := 631) X dL_act_32 (by decide) (by decide) ?_
      exact h631
  · skip
    refine zr_eq (x2 := (1 : Int32)) rfl ?_
    refine zr_istore5 X (by decide) rfl dL_act_24 ?_
    refine zr_aload2 X dL_act_26 ?_
    refine zr_bipush (v := (16 : Int32)) X dL_act_27 (by decide) ?_
    refine zr_callVQ (rm9 := zrm_X11_below) (As := [vi ((16 : Int32))]) (st := []) X zm_L_118 rfl rfl ⟨by decide, Nat.le_of_ble_eq_true rfl⟩ ⟨by decide, by decide⟩ (Nat.le_of_ble_eq_true rfl) dL_act_29 ?_
    refine zw_X11_below (b := 16) hE hw260 (by omega) (by omega) (fun J265 v9 hv10 hw266 hf267 => ?_)
    have h88 := za88_1 (Xp := Xp) X hnt hS hE hw266 hG (by omega) (by omega) (fun J S2 h1 h2 h3 => k1 J S2 h1 h2 (zfa.tr (zfa.tr (zfa.tr (zfa.tr hf255 hf258) hf261) hf267) h3)) (fun J h1 h2 => k2 J h1 (zfa.tr (zfa.tr (zfa.tr (zfa.tr hf255 hf258) hf261) hf267) h2))
    have h169 := za169_1 (Xp := Xp) X hnt hS hE hw266 hG (by omega) (by omega) (fun J S2 h1 h2 h3 => k1 J S2 h1 h2 (zfa.tr (zfa.tr (zfa.tr (zfa.tr hf255 hf258) hf261) hf267) h3)) (fun J h1 h2 => k2 J h1 (zfa.tr (zfa.tr (zfa.tr (zfa.tr hf255 hf258) hf261) hf267) h2))
    have h307 := za307_1 (Xp := Xp) X hnt hS hE hw266 hG (by omega) (by omega) (fun J S2 h1 h2 h3 => k1 J S2 h1 h2 (zfa.tr (zfa.tr (zfa.tr (zfa.tr hf255 hf258) hf261) hf267) h3))
    have h394 := za394_1 (Xp := Xp) X hnt hS hE hw266 hG (by omega) (by omega) (fun J S2 h1 h2 h3 => k1 J S2 h1 h2 (zfa.tr (zfa.tr (zfa.tr (zfa.tr hf255 hf258) hf261) hf267) h3)) (fun J h1 h2 => k2 J h1 (zfa.tr (zfa.tr (zfa.tr (zfa.tr hf255 hf258) hf261) hf267) h2))
    have h497 := za497_1 (Xp := Xp) X hnt hS hE hw266 hG (by omega) (by omega) (fun J S2 h1 h2 h3 => k1 J S2 h1 h2 (zfa.tr (zfa.tr (zfa.tr (zfa.tr hf255 hf258) hf261) hf267) h3)) (fun J h1 h2 => k2 J h1 (zfa.tr (zfa.tr (zfa.tr (zfa.tr hf255 hf258) hf261) hf267) h2))
    have h603 := za603_1 (Xp := Xp) X hnt hS hE hw266 hG (by omega) (by omega) (fun J S2 h1 h2 h3 => k1 J S2 h1 h2 (zfa.tr (zfa.tr (zfa.tr (zfa.tr hf255 hf258) hf261) hf267) h3)) (fun J h1 h2 => k2 J h1 (zfa.tr (zfa.tr (zfa.tr (zfa.tr hf255 hf258) hf261) hf267) h2))
    have h631 := za631_1 (Xp := Xp) X hnt hS hE hw266 hG (by omega) (by omega) (fun J S2 h1 h2 h3 => k1 J S2 h1 h2 (zfa.tr (zfa.tr (zfa.tr (zfa.tr hf255 hf258) hf261) hf267) h3)) (fun J h1 h2 => k2 J h1 (zfa.tr (zfa.tr (zfa.tr (zfa.tr hf255 hf258) hf261) hf267) h2))
    rcases (show v9 = 0 ∨ v9 = 1 ∨ v9 = 2 ∨ v9 = 3 ∨ v9 = 4 ∨ v9 = 5 ∨ v9 = 6 ∨ v9 = 7 ∨ v9 = 8 ∨ v9 = 9 ∨ v9 = 10 ∨ v9 = 11 ∨ v9 = 12 ∨ v9 = 13 ∨ v9 = 14 ∨ v9 = 15 by omega) with rfl | rfl | rfl | rfl | rfl | rfl | rfl | rfl | rfl | rfl | rfl | rfl | rfl | rfl | rfl | rfl
    · refine zr_eq (x2 := (0 : Int32)) rfl ?_
      refine zr_tblIn (off := 56) (tgt := 88) X dL_act_32 (by decide) (by decide) (by decide) (by decide) ?_
      exact h88
    · refine zr_eq (x2 := (1 : Int32)) rfl ?_
      refine zr_tblIn (off := 56) (tgt := 88) X dL_act_32 (by decide) (by decide) (by decide) (by decide) ?_
      exact h88
    · refine zr_eq (x2 := (2 : Int32)) rfl ?_
      refine zr_tblIn (off := 56) (tgt := 88) X dL_act_32 (by decide) (by decide) (by decide) (by decide) ?_
      exact h88
    · refine zr_eq (x2 := (3 : Int32)) rfl ?_
      refine zr_tblIn (off := 56) (tgt := 88) X dL_act_32 (by decide) (by decide) (by decide) (by decide) ?_
      exact h88
    · refine zr_eq (x2 := (4 : Int32)) rfl ?_
      refine zr_tblIn (off := 56) (tgt := 88) X dL_act_32 (by decide) (by decide) (by decide) (by decide) ?_
      exact h88
    · refine zr_eq (x2 := (5 : Int32)) rfl ?_
      refine zr_tblIn (off := 137) (tgt := 169) X dL_act_32 (by decide) (by decide) (by decide) (by decide) ?_
      exact h169
    · refine zr_eq (x2 := (6 : Int32)) rfl ?_
      refine zr_tblIn (off := 275) (tgt := 307) X dL_act_32 (by decide) (by decide) (by decide) (by decide) ?_
      exact h307
    · refine zr_eq (x2 := (7 : Int32)) rfl ?_
      refine zr_tblIn (off := 362) (tgt := 394) X dL_act_32 (by decide) (by decide) (by decide) (by decide) ?_
      exact h394
    · refine zr_eq (x2 := (8 : Int32)) rfl ?_
      refine zr_tblIn (off := 465) (tgt := 497) X dL_act_32 (by decide) (by decide) (by decide) (by decide) ?_
      exact h497
    · refine zr_eq (x2 := (9 : Int32)) rfl ?_
      refine zr_tblIn (off := 571) (tgt := 603) X dL_act_32 (by decide) (by decide) (by decide) (by decide) ?_
      exact h603
    · refine zr_eq (x2 := (10 : Int32)) rfl ?_
      refine zr_tblOut (tgt := 631) X dL_act_32 (by decide) (by decide) ?_
      exact h631
    · refine zr_eq (x2 := (11 : Int32)) rfl ?_
      refine zr_tblOut (tgt := 631) X dL_act_32 (by decide) (by decide) ?_
      exact h631
    · refine zr_eq (x2 := (12 : Int32)) rfl ?_
      refine zr_tblOut (tgt := 631) X dL_act_32 (by decide) (by decide) ?_
      exact h631
    · refine zr_eq (x2 := (13 : Int32)) rfl ?_
      refine zr_tblOut (tgt := 631) X dL_act_32 (by decide) (by decide) ?_
      exact h631
    · refine zr_eq (x2 := (14 : Int32)) rfl ?_
      refine zr_tblOut (tgt := 631) X dL_act_32 (by decide) (by decide) ?_
      exact h631
    · refine zr_eq (x2 := (15 : Int32)) rfl ?_
      refine zr_tblOut (tgt := 631) X dL_act_32 (by decide) (by decide) ?_
      exact h631
