/-! ===== the law, over its numbers ===== -/
set_option maxRecDepth 20000 in
theorem zlo_law {l : Launch} {D : va_G} {b0 : Nat} {tA : Nat → ClassId} {sa sv : Nat → Nat} {p : Program} {e : Env} {s : State} {m : MethodId} {args : Array Value} {below : List Frame} {meth : Method} {c : Code} {Q : State → Prop} 
    (X : zX p l e room_1 s m args below meth c RL cL_law 11 (some .boolean) D b0 tA sa sv) (hk : ∀ (K9 : zKt) (J : zI) (cells slots : Nat), cells ≤ 30000 → slots ≤ 240000 → zG p l e room_1 s m args below meth c 11 D b0 tA sa cells slots Q K9 526 [some (vr (sa 37) (61)), some (vi ((1 : Int32))), none, none, none, none, none, none, none, none, none] [] J) :
    ∀ (n : Nat) (i : Nat) (K9 : zKt) (J : zI) (cells slots : Nat), i ≤ 3 → cells ≤ 10000 * i → slots ≤ 80000 * i → 4 - i < n → zG p l e room_1 s m args below meth c 11 D b0 tA sa cells slots Q K9 4 [some (vr (sa 37) (61)), some (vi ((1 : Int32))), some (vi ((nI i))), none, none, none, none, none, none, none, none] [] J := by
  intro n
  induction n with
  | zero => intro i K9 J cells slots i1 ic is i9; exact absurd i9 (Nat.not_lt_zero _)
  | succ n ih =>
    intro i K9 J cells slots i1 ic is i9
    have hsv := zX_sv X
    refine zr_iload2 X dL_law_4 ?_
    refine zr_aload0 X dL_law_5 ?_
    refine zr_slen X dL_law_6 ?_
    refine zr_nicmp_ge X (i) ((sv 0)) (tgt := 526) (by omega) (by omega) dL_law_7 (by decide) (fun h1 => ?_) (fun h1 => ?_)
    · skip
      refine zr_forget (lv2 := [some (vr (sa 37) (61)), some (vi ((1 : Int32))), none, none, none, none, none, none, none, none, none]) (fun j9 v9 h9 => by rcases j9 with _ | _ | _ | _ | _ | _ | _ | _ | _ | _ | _ | j9 <;> first | exact h9 | (simp at h9; done) | (simp at h9)) ?_
      exact hk _ _ _ _ (by omega) (by omega)
    · skip
      refine zr_iload2 X dL_law_10 ?_
      refine zr_iconst (v := (3 : Int32)) X dL_law_11 (by decide) ?_
      refine zr_nicmp_ge X (i) (3) (tgt := 526) (by omega) (by omega) dL_law_12 (by decide) (fun h2 => ?_) (fun h2 => ?_)
      · skip
        refine zr_forget (lv2 := [some (vr (sa 37) (61)), some (vi ((1 : Int32))), none, none, none, none, none, none, none, none, none]) (fun j9 v9 h9 => by rcases j9 with _ | _ | _ | _ | _ | _ | _ | _ | _ | _ | _ | j9 <;> first | exact h9 | (simp at h9; done) | (simp at h9)) ?_
        exact hk _ _ _ _ (by omega) (by omega)
      · skip
        refine zr_iload1 X dL_law_15 ?_
        refine zr_if_eq (tgt := 526) X dL_law_16 (by decide) (fun h => absurd h (by decide)) (fun _ => ?_)
        refine zr_newClass X ⟨by decide, Nat.le_of_ble_eq_true rfl⟩ ⟨by simp only [room_1, zrm_X7_init, zrm_X11_init, zrm_X12_init]; omega, by simp only [room_1, zrm_X7_init, zrm_X11_init, zrm_X12_init]; omega⟩ (Nat.le_of_ble_eq_true rfl) dL_law_19 dL_law_22 dL_law_23 (fun x hfx hbx => ?_)
        have hC0 : zCl (zzC J x) (zzC J x) x (fun _ => 0) 0 (-1) zBlank [] := zCl_S
        have h500 : (kupC K9 x).1 (x + 500) = some (kC 500) := kupC_at (by decide)
        generalize zzC J x = I0 at hC0 ⊢
        generalize kupC K9 x = K0 at h500 ⊢
        refine zr_astore3 X (by decide) rfl dL_law_26 ?_
        refine zr_bipush (v := (8 : Int32)) X dL_law_27 (by decide) ?_
        refine zr_newa (atype := .int) (k := 19) (N := 8) X zac_int rfl (zX_ta X).1.2.1 ⟨⟨by decide, rfl⟩, rfl, rfl, rfl, fun _ => rfl⟩ (by decide) (by decide) (by decide) ⟨by simp only [room_1, zrm_X7_init, zrm_X11_init, zrm_X12_init]; omega, by simp only [room_1, zrm_X7_init, zrm_X11_init, zrm_X12_init]; omega⟩ dL_law_29 (fun z3 hf4 hb5 => ?_)
        have := hf4 _ _ h500
        have hk6 := kup_ex (k := 19) hf4 _ _ h500
        have hk7 : (kup K0 z3 19).1 z3 = some 19 := kup_new
        refine zr_astore4 X (by decide) rfl dL_law_31 ?_
        refine zr_new X znw_L_119 ⟨by simp only [room_1, zrm_X7_init, zrm_X11_init, zrm_X12_init]; omega, by simp only [room_1, zrm_X7_init, zrm_X11_init, zrm_X12_init]; omega⟩ dL_law_33 (fun z8 hf9 hb10 => ?_)
        have := hf9 _ _ hk6
        have hk11 := kup_ex (k := 16) hf9 _ _ hk6
        have := hf9 _ _ hk7
        have hk12 := kup_ex (k := 16) hf9 _ _ hk7
        have hk13 : (kup (kup K0 z3 19) z8 16).1 z8 = some 16 := kup_new
        refine zr_dupR X dL_law_36 ?_
        refine zr_aload0 X dL_law_37 ?_
        refine zr_iload2 X dL_law_38 ?_
        refine zr_scr (j := i) X (by omega) dL_law_39 ?_
        refine zr_initD (rm9 := zrm_X11_init) (As := [vi ((nI (sv (1 + i))))]) (st := [vr (z8) 16]) X zin_L_263 rfl rfl ⟨by decide, Nat.le_of_ble_eq_true rfl⟩ ⟨by simp only [room_1, zrm_X7_init, zrm_X11_init, zrm_X12_init]; omega, by simp only [room_1, zrm_X7_init, zrm_X11_init, zrm_X12_init]; omega⟩ (Nat.le_of_ble_eq_true rfl) dL_law_40 ?_
        refine zd_X11_init hk13 ?_
        intro hq14
        refine zr_astore5 X (by decide) rfl dL_law_43 ?_
        refine zr_new X znw_L_115 ⟨by simp only [room_1, zrm_X7_init, zrm_X11_init, zrm_X12_init]; omega, by simp only [room_1, zrm_X7_init, zrm_X11_init, zrm_X12_init]; omega⟩ dL_law_45 (fun z15 hf16 hb17 => ?_)
        have := hf16 _ _ hk11
        have hk18 := kup_ex (k := 17) hf16 _ _ hk11
        have := hf16 _ _ hk12
        have hk19 := kup_ex (k := 17) hf16 _ _ hk12
        have := hf16 _ _ hk13
        have hk20 := kup_ex (k := 17) hf16 _ _ hk13
        have hk21 : (kup (kup (kup K0 z3 19) z8 16) z15 17).1 z15 = some 17 := kup_new
        refine zr_dupR X dL_law_48 ?_
        refine zr_initD (rm9 := zrm_X12_init) (As := []) (st := [vr (z15) 17]) X zin_L_117 rfl rfl ⟨by decide, Nat.le_of_ble_eq_true rfl⟩ ⟨by simp only [room_1, zrm_X7_init, zrm_X11_init, zrm_X12_init]; omega, by simp only [room_1, zrm_X7_init, zrm_X11_init, zrm_X12_init]; omega⟩ (Nat.le_of_ble_eq_true rfl) dL_law_49 ?_
        refine zd_X12_init hk21 (fun K22 z23 z24 z25 J26 hf27 hx28 hl29 hl30 hkn31 hr32 hv33 hz34 hfr35 => ?_)
        intro hq36
        have hk37 := hx28 _ _ hk18
        have := hf27 _ _ hk18
        have hk38 := hx28 _ _ hk19
        have := hf27 _ _ hk19
        have hk39 := hx28 _ _ hk20
        have := hf27 _ _ hk20
        have hk40 := hx28 _ _ hk21
        have := hf27 _ _ hk21
        refine zr_astore6 X (by decide) rfl dL_law_52 ?_
        have hP0 := zPt.start (S := zBlank) (J := J26) (show z15 < z23 by omega) (show z23 < z24 by omega) (show z24 < z25 by omega) hk40 hkn31.1 hkn31.2.1 hkn31.2.2 (hr32.1) (hr32.2.1) (hr32.2.2)
        have hX9 : ∀ i : Nat, i < 15 → (i < 6 ∨ 9 ≤ i) → J26 (z15) (zss i) = sX zBlank i := zx15 (f := J26 (z15)) (hv33.1) (hv33.2.1) (hv33.2.2.1) (hv33.2.2.2.1) (hv33.2.2.2.2.1) (hv33.2.2.2.2.2.1) (hv33.2.2.2.2.2.2.1) (hv33.2.2.2.2.2.2.2.1) (hv33.2.2.2.2.2.2.2.2.1) (hv33.2.2.2.2.2.2.2.2.2.1) (hv33.2.2.2.2.2.2.2.2.2.2.1) (hv33.2.2.2.2.2.2.2.2.2.2.2)
        obtain ⟨A, eA, hS, hM⟩ := hP0.done (n := 0) (m := 0) (by decide) (by decide) rfl rfl hX9 (fun k hk => (show J26 (z25) k = sX zBlank (6 + k) from (hz34 k).trans (by rcases (show k = 0 ∨ k = 1 ∨ k = 2 by omega) with rfl | rfl | rfl <;> rfl)))
        have hz0 : A 0 = z15 := eA 0 (by unfold zvd; omega)
        have hA : ∀ i, zvd 0 0 i → x + 501 ≤ A i := fun i hi => by rw [eA i hi]; have h0 : z15 ≤ zB4 z15 z23 z24 z25 i := hP0.ge hi; omega
        have hC1 : zCl J26 J26 x (fun _ => 0) 0 (-1) zBlank [] := hC0.on (fun q q1 q2 => funext fun j9 => (congrFun (hfr35 (q) (by omega) (by omega)).2 j9).trans ((congrFun (zz_ne (by omega)) j9).trans ((zput_ne (by omega)).trans ((congrFun (zz_ne (by omega)) j9).trans ((congrFun (zz_ne (by omega)) j9))))))
        have hw0 : ∀ j, J26 z3 j = 0 := fun j => (congrFun (hfr35 (z3) (by omega) (by omega)).2 j).trans ((congrFun (zz_ne (by omega)) j).trans ((zput_ne (by omega)).trans ((congrFun (zz_ne (by omega)) j).trans (zz_eq))))
        rw [show (vr z15 17 : AV) = vr (A 0) 17 by rw [hz0]]
        refine zlb_law (x := x) (w := z3) (r := z8) (A := A) X hC1 hw0 hS hM hA ⟨by omega, by omega, by omega⟩ hk38 hk39 (by simp only [room_1, zrm_X7_init, zrm_X11_init, zrm_X12_init]; omega) (by simp only [room_1, zrm_X7_init, zrm_X11_init, zrm_X12_init]; omega) (fun K3 J3 c9 s9 q1 q2 => ?_)
        simp only [zrm_X7_init, zrm_X11_init, zrm_X12_init] at q1 q2
        exact ih (i + 1) K3 J3 c9 s9 (by omega) (by omega) (by omega) (by omega)
