/-! ===== the row's constructor ===== -/
theorem zrefs_up {b st j : Nat} (hj : j < 2 ^ 31) : va_up (fun i => if i < j then some (b + st * i) else none) (nI j).toNatClampNeg (some (b + st * j)) = fun i => if i < j + 1 then some (b + st * i) else none := by
  rw [nI_clamp hj]
  funext i
  unfold va_up
  by_cases h : i = j
  · subst h; rw [if_pos rfl, if_pos (Nat.lt_succ_self _)]
  · rw [if_neg h]
    dsimp only
    by_cases h2 : i < j
    · rw [if_pos h2, if_pos (by omega)]
    · rw [if_neg h2, if_neg (by omega)]
section ZBLD
variable {p : Program} {l : Launch} {e : Env} {R : Room} {s : State} {m : MethodId} {args : Array Value} {below : List Frame} {meth : Method} {c : Code} {cells slots : Nat} {Q : State → Prop}
variable {cc : ByteArray} {pc nL z : Nat} {D : va_G} {b0 : Nat} {tA : Nat → ClassId} {sa sv : Nat → Nat} {own : String} {ret : Option FieldType} {lv : List (Option AV)} {st : List Value} {E : zE}
theorem zb_z {z2 : Nat} (h : z = z2) (kk : zB p l e R s m args below meth c nL D b0 cells slots Q z2 E pc lv st) : zB p l e R s m args below meth c nL D b0 cells slots Q z E pc lv st := h ▸ kk
end ZBLD
theorem zoi_X5 : Cond.methodLink RX5 3 Lib.objectInit ∈ zALL := zin (List.mem_append_right _ (List.mem_of_getElem? (i := 96) (by decide +kernel))) rfl
theorem zcl_X5_9 : Cond.classLink RX5 9 RX1 ∈ zALL := zin (List.mem_append_right _ (List.mem_of_getElem? (i := 97) (by decide +kernel))) rfl
theorem zfw_X5_11 : zFw RX5 11 5 0 RX5 TX5 16 tyX5 := ⟨zin_X5, rfl, ⟨by decide, rfl⟩, tyX5_ok, nmX5, zin (List.mem_append_right _ (List.mem_of_getElem? (i := 191) (by decide +kernel))) rfl⟩
theorem zcl_X5_17 : Cond.classLink RX5 17 RX0 ∈ zALL := zin (List.mem_append_right _ (List.mem_of_getElem? (i := 99) (by decide +kernel))) rfl
theorem zfw_X5_19 : zFw RX5 19 5 1 RX5 TX5 16 tyX5 := ⟨zin_X5, rfl, ⟨by decide, rfl⟩, tyX5_ok, nmX5, zin (List.mem_append_right _ (List.mem_of_getElem? (i := 194) (by decide +kernel))) rfl⟩
theorem zfw_X5_23 : zFw RX5 23 5 4 RX5 TX5 16 tyX5 := ⟨zin_X5, rfl, ⟨by decide, rfl⟩, tyX5_ok, nmX5, zin (List.mem_append_right _ (List.mem_of_getElem? (i := 202) (by decide +kernel))) rfl⟩
theorem zfw_X5_27 : zFw RX5 27 5 5 RX5 TX5 16 tyX5 := ⟨zin_X5, rfl, ⟨by decide, rfl⟩, tyX5_ok, nmX5, zin (List.mem_append_right _ (List.mem_of_getElem? (i := 204) (by decide +kernel))) rfl⟩
theorem zins_X1 : Cond.instantiable RX1 9 ∈ zALL := zin (List.mem_append_right _ (List.mem_of_getElem? (i := 101) (by decide +kernel))) rfl
theorem zdf_X1 : ∀ j, j < 9 → defaultValue (tyX1 j) = vp_V [.null, .null, .int 0, .int 0, .int 0, .int 0, .int 0, .int 0, .int 0] j := by decide +kernel
theorem ziw_X5_30 : zIw RX5 30 yX1_init cX1_init 1 := ⟨by decide +kernel, rfl, Or.inr (List.mem_append_right _ (List.mem_of_getElem? (i := 102) (by decide +kernel))), zin (List.mem_append_right _ (List.mem_of_getElem? (i := 103) (by decide +kernel))) rfl, zini_X1, zin (List.mem_append_right _ (List.mem_of_getElem? (i := 104) (by decide +kernel))) rfl⟩
theorem zins_X0 : Cond.instantiable RX0 5 ∈ zALL := zin (List.mem_append_right _ (List.mem_of_getElem? (i := 161) (by decide +kernel))) rfl
theorem zdf_X0 : ∀ j, j < 5 → defaultValue (tyX0 j) = vp_V [.int 0, .int 0, .int 0, .int 0, .int 0] j := by decide +kernel
theorem ziw_X5_31 : zIw RX5 31 yX0_init cX0_init 1 := ⟨by decide +kernel, rfl, Or.inr (List.mem_append_right _ (List.mem_of_getElem? (i := 162) (by decide +kernel))), zin (List.mem_append_right _ (List.mem_of_getElem? (i := 163) (by decide +kernel))) rfl, zini_X0, zin (List.mem_append_right _ (List.mem_of_getElem? (i := 164) (by decide +kernel))) rfl⟩
abbrev zrm_X5_init : Room := { frames := 3, cells := 44, slots := 276, locals := 52 }
section ZBLD
variable {p : Program} {l : Launch} {e : Env} {s : State} {m : MethodId} {args : Array Value} {below : List Frame} {meth : Method} {c : Code} {Q : State → Prop}
variable {D : va_G} {b0 : Nat} {tA : Nat → ClassId} {sa sv : Nat → Nat}
set_option maxRecDepth 20000 in
theorem zi_X5_g (X : zX p l e zrm_X5_init s m args below meth c RX5 cX5_init 2 none D b0 tA sa sv) (hT : zTa tA s) (hRA : zRA (tA 12) RX1 s) {a : Nat} {E0 : zE}
    (kk : ∀ (cells slots : Nat) (E : zE), cells ≤ 32 → slots ≤ 216 → E a = some (.inr (5, [.ref (a + 1), .ref (a + 2), .int 0, .int 0, .int 3, .int 2, .int 0, .int 0, .int 0, .int 0, .int 0, .int 0, .int 0, .int 0, .int 0, .int 0])) → E (a + 1) = some (.inl (tA 12, 6, .inr (.inr (.inr (.inr (fun i => if i < 6 then some (a + 3 + 5 * i) else none)))))) → (∀ i, i < 6 → zBk tA kG1 iG1 E (a + 3 + 5 * i) 5) → (∀ q, (q ≠ a + 1 ∧ (q < a + 3 ∨ a + 33 ≤ q)) → E q = E0 q) → zB p l e zrm_X5_init s m args below meth c 2 D b0 cells slots Q (a + 33) E 62 [some (vr a 0), some (vi (nI 6))] []) :
    ∀ (n j cells slots : Nat) (E : zE), j + n = 6 → cells ≤ 2 + 5 * j → slots ≤ 18 + 33 * j → E a = some (.inr (5, [.ref (a + 1), .ref (a + 2), .int 0, .int 0, .int 3, .int 2, .int 0, .int 0, .int 0, .int 0, .int 0, .int 0, .int 0, .int 0, .int 0, .int 0])) → E (a + 1) = some (.inl (tA 12, 6, .inr (.inr (.inr (.inr (fun i => if i < j then some (a + 3 + 5 * i) else none)))))) → (∀ i, i < j → zBk tA kG1 iG1 E (a + 3 + 5 * i) 5) → (∀ q, (q ≠ a + 1 ∧ (q < a + 3 ∨ a + 33 ≤ q)) → E q = E0 q) → zB p l e zrm_X5_init s m args below meth c 2 D b0 cells slots Q (a + 3 + 5 * j) E 34 [some (vr a 0), some (vi (nI j))] []
  | n, j, cells, slots, E, hj, hc, hs, h0, h1, hb, ho => by
    refine zb_iload1 X dX5_init_34 ?_
    refine zb_aload0 X dX5_init_35 ?_
    refine zb_get X zfw_X5_11 h0 rfl dX5_init_36 ?_
    refine zb_alen X X.2.2.2.2.2.2.1.2.1.2.2.2.2.1 h1 dX5_init_39 ?_
    refine zb_icmp_ge (tgt := 62) X dX5_init_40 (by decide) (fun h => ?_) (fun h => ?_)
    · have h6 : j = 6 := by
        rw [nI_leI (by omega) (by omega)] at h
        omega
      subst h6
      refine zb_z (z2 := a + 33) (by omega) ?_
      exact kk cells slots E (by omega) (by omega) h0 h1 hb ho
    · have h6 : j < 6 := by
        rw [nI_leI (by omega) (by omega)] at h
        omega
      refine zb_aload0 X dX5_init_43 ?_
      refine zb_get X zfw_X5_11 h0 rfl dX5_init_44 ?_
      refine zb_iload1 X dX5_init_47 ?_
      refine zb_new X zin_X1 (ci := 1) rfl tyX1_ok zcl_X5_9 zins_X1 zini_X1 zdf_X1 ⟨by show cells + 1 ≤ 44; omega, by show slots + 9 ≤ 276; omega⟩ dX5_init_48 (fun E1 g1 o1 => ?_)
      refine zb_dup X dX5_init_51 ?_
      refine zb_init X (rm9 := zrm_X1_init) ziw_X5_30 hT ⟨by decide, Nat.le_of_ble_eq_true rfl⟩ ⟨by show cells + 1 + 4 ≤ 44; omega, by show slots + 9 + 24 ≤ 276; omega⟩ (Nat.le_of_ble_eq_true rfl) dX5_init_52 (zi_X1 g1) (fun E2 g => ?_)
      obtain ⟨g2, o2⟩ := g
      refine zb_aast X (k := 12) (n := 6) (ci := 1) (vs := zfl 1 (a + 3 + 5 * j) (fun _ => none) (iG1 0)) hRA ((o2 _ (by omega)).trans ((o1 _ (by omega)).trans h1)) (g2 0 (by decide)) rfl (vp_in_nI h6 (by omega)) dX5_init_55 (fun E3 g3 o3 => ?_)
      refine zb_iinc1 X (v := nI (j + 1)) (nI_1 j) (by decide) rfl dX5_init_56 ?_
      refine zb_goto (tgt := 34) X dX5_init_59 (by decide) ?_
      refine zb_z (z2 := a + 3 + 5 * (j + 1)) (by omega) ?_
      match n, hj with
      | 0, hj => omega
      | n + 1, hj =>
        refine zi_X5_g X hT hRA kk n (j + 1) _ _ E3 (by omega) (by show cells + 1 + 4 ≤ 2 + 5 * (j + 1); omega) (by show slots + 9 + 24 ≤ 18 + 33 * (j + 1); omega) ((o3 _ (by omega)).trans ((o2 _ (by omega)).trans ((o1 _ (by omega)).trans h0))) ?_ (fun i hi => ?_) (fun q hq => (o3 q (by omega)).trans ((o2 q (by omega)).trans ((o1 q (by omega)).trans (ho q hq))))
        · rw [g3, zrefs_up (by omega)]
        · by_cases hij : i = j
          · subst hij
            exact fun d hd => (o3 _ (by omega)).trans (g2 d hd)
          · exact fun d hd => (o3 _ (by omega)).trans ((o2 _ (by omega)).trans ((o1 _ (by omega)).trans (hb i (by omega) d hd)))
set_option maxRecDepth 20000 in
theorem zi_X5_c (X : zX p l e zrm_X5_init s m args below meth c RX5 cX5_init 2 none D b0 tA sa sv) (hT : zTa tA s) (hRA : zRA (tA 11) RX0 s) {a : Nat} {E0 : zE}
    (kk : ∀ (cells slots : Nat) (E : zE), cells ≤ 44 → slots ≤ 276 → E a = some (.inr (5, [.ref (a + 1), .ref (a + 2), .int 0, .int 0, .int 3, .int 2, .int 0, .int 0, .int 0, .int 0, .int 0, .int 0, .int 0, .int 0, .int 0, .int 0])) → E (a + 2) = some (.inl (tA 11, 12, .inr (.inr (.inr (.inr (fun i => if i < 12 then some (a + 33 + 1 * i) else none)))))) → (∀ i, i < 12 → zBk tA (fun _ => 0) i00 E (a + 33 + 1 * i) 1) → (∀ q, (q ≠ a + 2 ∧ (q < a + 33 ∨ a + 45 ≤ q)) → E q = E0 q) → zB p l e zrm_X5_init s m args below meth c 2 D b0 cells slots Q (a + 45) E 92 [some (vr a 0), some (vi (nI 12))] []) :
    ∀ (n j cells slots : Nat) (E : zE), j + n = 12 → cells ≤ 32 + 1 * j → slots ≤ 216 + 5 * j → E a = some (.inr (5, [.ref (a + 1), .ref (a + 2), .int 0, .int 0, .int 3, .int 2, .int 0, .int 0, .int 0, .int 0, .int 0, .int 0, .int 0, .int 0, .int 0, .int 0])) → E (a + 2) = some (.inl (tA 11, 12, .inr (.inr (.inr (.inr (fun i => if i < j then some (a + 33 + 1 * i) else none)))))) → (∀ i, i < j → zBk tA (fun _ => 0) i00 E (a + 33 + 1 * i) 1) → (∀ q, (q ≠ a + 2 ∧ (q < a + 33 ∨ a + 45 ≤ q)) → E q = E0 q) → zB p l e zrm_X5_init s m args below meth c 2 D b0 cells slots Q (a + 33 + 1 * j) E 64 [some (vr a 0), some (vi (nI j))] []
  | n, j, cells, slots, E, hj, hc, hs, h0, h1, hb, ho => by
    refine zb_iload1 X dX5_init_64 ?_
    refine zb_aload0 X dX5_init_65 ?_
    refine zb_get X zfw_X5_19 h0 rfl dX5_init_66 ?_
    refine zb_alen X X.2.2.2.2.2.2.1.2.1.2.2.2.1 h1 dX5_init_69 ?_
    refine zb_icmp_ge (tgt := 92) X dX5_init_70 (by decide) (fun h => ?_) (fun h => ?_)
    · have h6 : j = 12 := by
        rw [nI_leI (by omega) (by omega)] at h
        omega
      subst h6
      refine zb_z (z2 := a + 45) (by omega) ?_
      exact kk cells slots E (by omega) (by omega) h0 h1 hb ho
    · have h6 : j < 12 := by
        rw [nI_leI (by omega) (by omega)] at h
        omega
      refine zb_aload0 X dX5_init_73 ?_
      refine zb_get X zfw_X5_19 h0 rfl dX5_init_74 ?_
      refine zb_iload1 X dX5_init_77 ?_
      refine zb_new X zin_X0 (ci := 0) rfl tyX0_ok zcl_X5_17 zins_X0 zini_X0 zdf_X0 ⟨by show cells + 1 ≤ 44; omega, by show slots + 5 ≤ 276; omega⟩ dX5_init_78 (fun E1 g1 o1 => ?_)
      refine zb_dup X dX5_init_81 ?_
      refine zb_init X (rm9 := zrm_X0_init) ziw_X5_31 hT ⟨by decide, Nat.le_of_ble_eq_true rfl⟩ ⟨by show cells + 1 + 0 ≤ 44; omega, by show slots + 5 + 0 ≤ 276; omega⟩ (Nat.le_of_ble_eq_true rfl) dX5_init_82 (zi_X0 g1) (fun E2 g => ?_)
      obtain ⟨g2, o2⟩ := g
      refine zb_aast X (k := 11) (n := 12) (ci := 0) (vs := zfl 0 (a + 33 + 1 * j) (fun _ => none) (i00 0)) hRA ((o2 _ (by omega)).trans ((o1 _ (by omega)).trans h1)) (g2 0 (by decide)) rfl (vp_in_nI h6 (by omega)) dX5_init_85 (fun E3 g3 o3 => ?_)
      refine zb_iinc1 X (v := nI (j + 1)) (nI_1 j) (by decide) rfl dX5_init_86 ?_
      refine zb_goto (tgt := 64) X dX5_init_89 (by decide) ?_
      refine zb_z (z2 := a + 33 + 1 * (j + 1)) (by omega) ?_
      match n, hj with
      | 0, hj => omega
      | n + 1, hj =>
        refine zi_X5_c X hT hRA kk n (j + 1) _ _ E3 (by omega) (by show cells + 1 + 0 ≤ 32 + 1 * (j + 1); omega) (by show slots + 5 + 0 ≤ 216 + 5 * (j + 1); omega) ((o3 _ (by omega)).trans ((o2 _ (by omega)).trans ((o1 _ (by omega)).trans h0))) ?_ (fun i hi => ?_) (fun q hq => (o3 q (by omega)).trans ((o2 q (by omega)).trans ((o1 q (by omega)).trans (ho q hq))))
        · rw [g3, zrefs_up (by omega)]
        · by_cases hij : i = j
          · subst hij
            exact fun d hd => (o3 _ (by omega)).trans (g2 d hd)
          · exact fun d hd => (o3 _ (by omega)).trans ((o2 _ (by omega)).trans ((o1 _ (by omega)).trans (hb i (by omega) d hd)))
end ZBLD
set_option maxRecDepth 20000 in
theorem zi_X5 {l : Launch} {D : va_G} {b0 : Nat} {tA : Nat → ClassId} {sa sv : Nat → Nat} {a : Nat} {E : zE}
    (he : E a = some (.inr (5, [.null, .null, .int 0, .int 0, .int 0, .int 0, .int 0, .int 0, .int 0, .int 0, .int 0, .int 0, .int 0, .int 0, .int 0, .int 0]))) : zCI l D b0 tA sa sv yX5_init cX5_init 2 zrm_X5_init a (a + 1) E (a + 45) (fun E1 => zBk tA kR1 iR1 E1 a 45 ∧ zOut E E1 a 45) := by
  refine zCI_of (by decide +kernel) (Nat.le_of_ble_eq_true rfl) rfl ?_
  intro p e s m args below meth c X hT hin2
  have X : zX p l e zrm_X5_init s m args below meth c RX5 cX5_init 2 none D b0 tA sa sv := X
  refine zb_aload0 X dX5_init_0 ?_
  refine zb_objInit X zoi_X5 zoi_im zoi_co ⟨by decide, Nat.le_of_ble_eq_true rfl⟩ dX5_init_1 ?_
  refine zb_aload0 X dX5_init_4 ?_
  refine zb_bipush (v := (6 : Int32)) X dX5_init_5 (by decide) ?_
  refine zb_anew (k := 12) (N := 6) X zcl_X5_9 hT.2.1.2.1 hT.1.2.2.2.2.1 (by decide) (by decide) (Nat.le_of_ble_eq_true rfl) ⟨by show 0 + 1 ≤ 44; decide, by show 0 + 6 ≤ 276; decide⟩ dX5_init_7 (fun hRA1 E1 h1 o1 => ?_)
  refine zb_put X zfw_X5_11 (Or.inr ⟨rfl, hin2, rfl⟩) rfl rfl (Nat.le_of_ble_eq_true rfl) ((o1 a (by omega)).trans he) dX5_init_10 (fun E2 h2 o2 => ?_)
  refine zb_aload0 X dX5_init_13 ?_
  refine zb_bipush (v := (12 : Int32)) X dX5_init_14 (by decide) ?_
  refine zb_anew (k := 11) (N := 12) X zcl_X5_17 hT.2.1.1 hT.1.2.2.2.1 (by decide) (by decide) (Nat.le_of_ble_eq_true rfl) ⟨by show 1 + 1 ≤ 44; decide, by show 6 + 12 ≤ 276; decide⟩ dX5_init_16 (fun hRA3 E3 h3 o3 => ?_)
  refine zb_put X zfw_X5_19 (Or.inr ⟨rfl, hin2, rfl⟩) rfl rfl (Nat.le_of_ble_eq_true rfl) ((o3 a (by omega)).trans h2) dX5_init_19 (fun E4 h4 o4 => ?_)
  refine zb_aload0 X dX5_init_22 ?_
  refine zb_iconst (v := (3 : Int32)) X dX5_init_23 (by decide) ?_
  refine zb_put X zfw_X5_23 (Or.inl rfl) rfl rfl (Nat.le_of_ble_eq_true rfl) h4 dX5_init_24 (fun E5 h5 o5 => ?_)
  refine zb_aload0 X dX5_init_27 ?_
  refine zb_iconst (v := (2 : Int32)) X dX5_init_28 (by decide) ?_
  refine zb_put X zfw_X5_27 (Or.inl rfl) rfl rfl (Nat.le_of_ble_eq_true rfl) h5 dX5_init_29 (fun E6 h6 o6 => ?_)
  refine zb_iconst (v := nI 0) X dX5_init_32 (by decide) ?_
  refine zb_istoreN X (i := 1) rfl (by decide) (fun k9 h9 w9 hw9 => by cases (Nat.succ.inj h9 : k9 = 0); cases hw9; rfl) dX5_init_33 ?_
  refine zb_z (z2 := a + 3 + 5 * 0) (by omega) ?_
  refine zb_alt (g := fun i => if i < 0 then some (a + 3 + 5 * i) else none) X ((o6 (a + 1) (by omega)).trans ((o5 (a + 1) (by omega)).trans ((o4 (a + 1) (by omega)).trans ((o3 (a + 1) (by omega)).trans ((o2 (a + 1) (by omega)).trans h1))))) (fun j hj => by rw [if_neg (by omega)]) (fun F1 u1 w1 => ?_)
  refine zi_X5_g X hT hRA1 (E0 := F1) ?_ 6 0 _ _ F1 rfl (by show 2 ≤ 2 + 5 * 0; decide) (by show 18 ≤ 18 + 33 * 0; decide) ((w1 _ (by omega)).trans h6) u1 (fun i hi => absurd hi (Nat.not_lt_zero _)) (fun _ _ => rfl)
  intro cells slots E9 hc hs v0 v1 vb vo
  refine zb_iconst (v := nI 0) X dX5_init_62 (by decide) ?_
  refine zb_istoreN X (i := 1) rfl (by decide) (fun k9 h9 w9 hw9 => by cases (Nat.succ.inj h9 : k9 = 0); cases hw9; rfl) dX5_init_63 ?_
  refine zb_z (z2 := a + 33 + 1 * 0) (by omega) ?_
  refine zb_alt (g := fun i => if i < 0 then some (a + 33 + 1 * i) else none) X ((vo _ (by omega)).trans ((w1 _ (by omega)).trans ((o6 (a + 2) (by omega)).trans ((o5 (a + 2) (by omega)).trans ((o4 (a + 2) (by omega)).trans h3))))) (fun j hj => by rw [if_neg (by omega)]) (fun F2 u2 w2 => ?_)
  refine zi_X5_c X hT hRA3 (E0 := F2) ?_ 12 0 _ _ F2 rfl (by omega) (by omega) ((w2 _ (by omega)).trans v0) u2 (fun i hi => absurd hi (Nat.not_lt_zero _)) (fun _ _ => rfl)
  intro cells2 slots2 E8 hc2 hs2 x0 x1 xb xo
  refine zb_alt (g := fun i => some (a + 1 + 2 + 5 * i)) X ((xo _ (by omega)).trans ((w2 _ (by omega)).trans v1)) (fun j hj => by rw [if_pos (by omega)]) (fun G1 y1 p1 => ?_)
  refine zb_alt (g := fun i => some (a + 2 + 31 + 1 * i)) X ((p1 _ (by omega)).trans x1) (fun j hj => by rw [if_pos (by omega)]) (fun G2 y2 p2 => ?_)
  refine zb_ret X rfl (by show _ ≤ 44; omega) (by show _ ≤ 276; omega) (by omega) dX5_init_92 ⟨fun d hd => ?_, fun q hq => ?_⟩
  · rcases (by omega : d = 0 ∨ d = 1 ∨ d = 2 ∨ (3 ≤ d ∧ d < 33) ∨ (33 ≤ d ∧ d < 45)) with rfl | rfl | rfl | hd | hd
    · exact (p2 _ (by omega)).trans ((p1 _ (by omega)).trans x0)
    · exact (p2 _ (by omega)).trans y1
    · exact y2
    · have h9 := (p2 (a + d) (by omega)).trans ((p1 (a + d) (by omega)).trans ((xo (a + d) (by omega)).trans (w2 (a + d) (by omega))))
      have hb := vb ((d - 3) / 5) (by omega) ((d - 3) % 5) (by omega)
      have e9 : a + 3 + 5 * ((d - 3) / 5) + (d - 3) % 5 = a + d := by omega
      rw [e9] at hb
      have k9 : kR1 d = kG1 ((d - 3) % 5) := by unfold kR1; rw [if_neg (by omega), if_neg (by omega), if_neg (by omega), if_pos (by omega)]
      have i9 : iR1 d = iG1 ((d - 3) % 5) := by funext j; unfold iR1; rw [if_neg (by omega), if_pos (by omega)]
      rw [k9, i9]
      exact h9.trans hb
    · have h9 := (p2 (a + d) (by omega)).trans (p1 (a + d) (by omega))
      have hb := xb (d - 33) (by omega) 0 (by decide)
      have e9 : a + 33 + 1 * (d - 33) + 0 = a + d := by omega
      rw [e9] at hb
      have k9 : kR1 d = 0 := by unfold kR1; rw [if_neg (by omega), if_neg (by omega), if_neg (by omega), if_neg (by omega)]
      have i9 : iR1 d = i00 0 := by funext j; unfold iR1; rw [if_neg (by omega), if_neg (by omega)]; rfl
      rw [k9, i9]
      exact h9.trans hb
  · exact (p2 q (by omega)).trans ((p1 q (by omega)).trans ((xo q (by omega)).trans ((w2 q (by omega)).trans ((vo q (by omega)).trans ((w1 q (by omega)).trans ((o6 q (by omega)).trans ((o5 q (by omega)).trans ((o4 q (by omega)).trans ((o3 q (by omega)).trans ((o2 q (by omega)).trans (o1 q (by omega))))))))))))
