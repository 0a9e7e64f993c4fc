/-! ===== constructors of the history, of the class, of the reference ===== -/
def kH (d : Nat) : Nat := if d = 0 then 2 else if d = 1 then 13 else kR1 ((d - 2) % 45)
def iH (d j : Nat) : Int32 := if d < 2 then 0 else iR1 ((d - 2) % 45) j
def kC (d : Nat) : Nat := if d = 0 then 7 else if d = 1 then 3 else if d = 2 then 9 else if d = 3 then 6 else if d < 49 then kR1 (d - 4) else if d < 94 then kR1 (d - 49) else if d < 139 then kR1 (d - 94) else kH (d - 139)
def iC (d j : Nat) : Int32 := if d = 0 then (if j = 6 then -1 else 0) else if d < 4 then 0 else if d < 49 then iR1 (d - 4) j else if d < 94 then iR1 (d - 49) j else if d < 139 then iR1 (d - 94) j else iH (d - 139) j
theorem zoi_X2 : Cond.methodLink RX2 3 Lib.objectInit ∈ zALL := zin (List.mem_append_right _ (List.mem_of_getElem? (i := 260) (by decide +kernel))) rfl
theorem zcl_X2_9 : Cond.classLink RX2 9 RX5 ∈ zALL := zin (List.mem_append_right _ (List.mem_of_getElem? (i := 261) (by decide +kernel))) rfl
theorem zfw_X2_11 : zFw RX2 11 2 0 RX2 TX2 3 tyX2 := ⟨zin_X2, rfl, ⟨by decide, rfl⟩, tyX2_ok, nmX2, zin (List.mem_append_right _ (List.mem_of_getElem? (i := 264) (by decide +kernel))) rfl⟩
theorem zins_X5 : Cond.instantiable RX5 16 ∈ zALL := zin (List.mem_append_right _ (List.mem_of_getElem? (i := 92) (by decide +kernel))) rfl
theorem zdf_X5 : ∀ j, j < 16 → defaultValue (tyX5 j) = vp_V [.null, .null, .int 0, .int 0, .int 0, .int 0, .int 0, .int 0, .int 0, .int 0, .int 0, .int 0, .int 0, .int 0, .int 0, .int 0] j := by decide +kernel
theorem ziw_X2_17 : zIw RX2 17 yX5_init cX5_init 2 := ⟨by decide +kernel, rfl, Or.inl (zin (List.mem_append_right _ (List.mem_of_getElem? (i := 263) (by decide +kernel))) rfl), zin (List.mem_append_right _ (List.mem_of_getElem? (i := 94) (by decide +kernel))) rfl, zini_X5, zin (List.mem_append_right _ (List.mem_of_getElem? (i := 95) (by decide +kernel))) rfl⟩
theorem zoi_X7 : Cond.methodLink RX7 1 Lib.objectInit ∈ zALL := zin (List.mem_append_right _ (List.mem_of_getElem? (i := 32) (by decide +kernel))) rfl
theorem zcl_X7_7 : Cond.classLink RX7 7 RX3 ∈ zALL := zin (List.mem_append_right _ (List.mem_of_getElem? (i := 35) (by decide +kernel))) rfl
theorem zins_X3 : Cond.instantiable RX3 9 ∈ zALL := zin (List.mem_append_right _ (List.mem_of_getElem? (i := 36) (by decide +kernel))) rfl
theorem zdf_X3 : ∀ j, j < 9 → defaultValue (tyX3 j) = vp_V [.null, .int 0, .int 0, .int 0, .int 0, .int 0, .int 0, .int 0, .int 0] j := by decide +kernel
theorem ziw_X7_9 : zIw RX7 9 yX3_init cX3_init 1 := ⟨by decide +kernel, rfl, Or.inr (List.mem_append_right _ (List.mem_of_getElem? (i := 37) (by decide +kernel))), zin (List.mem_append_right _ (List.mem_of_getElem? (i := 38) (by decide +kernel))) rfl, zini_X3, zin (List.mem_append_right _ (List.mem_of_getElem? (i := 39) (by decide +kernel))) rfl⟩
theorem zfw_X7_10 : zFw RX7 10 7 0 RX7 TX7 7 tyX7 := ⟨zin_X7, rfl, ⟨by decide, rfl⟩, tyX7_ok, nmX7, zin (List.mem_append_right _ (List.mem_of_getElem? (i := 275) (by decide +kernel))) rfl⟩
theorem zcl_X7_16 : Cond.classLink RX7 16 RX6 ∈ zALL := zin (List.mem_append_right _ (List.mem_of_getElem? (i := 76) (by decide +kernel))) rfl
theorem zins_X6 : Cond.instantiable RX6 2 ∈ zALL := zin (List.mem_append_right _ (List.mem_of_getElem? (i := 77) (by decide +kernel))) rfl
theorem zdf_X6 : ∀ j, j < 2 → defaultValue (tyX6 j) = vp_V [.int 0, .int 0] j := by decide +kernel
theorem ziw_X7_18 : zIw RX7 18 yX6_init cX6_init 1 := ⟨by decide +kernel, rfl, Or.inr (List.mem_append_right _ (List.mem_of_getElem? (i := 78) (by decide +kernel))), zin (List.mem_append_right _ (List.mem_of_getElem? (i := 79) (by decide +kernel))) rfl, zini_X6, zin (List.mem_append_right _ (List.mem_of_getElem? (i := 80) (by decide +kernel))) rfl⟩
theorem zfw_X7_19 : zFw RX7 19 7 1 RX7 TX7 7 tyX7 := ⟨zin_X7, rfl, ⟨by decide, rfl⟩, tyX7_ok, nmX7, zin (List.mem_append_right _ (List.mem_of_getElem? (i := 276) (by decide +kernel))) rfl⟩
theorem zcl_X7_23 : Cond.classLink RX7 23 RX5 ∈ zALL := zin (List.mem_append_right _ (List.mem_of_getElem? (i := 91) (by decide +kernel))) rfl
theorem ziw_X7_25 : zIw RX7 25 yX5_init cX5_init 2 := ⟨by decide +kernel, rfl, Or.inl (zin (List.mem_append_right _ (List.mem_of_getElem? (i := 93) (by decide +kernel))) rfl), zin (List.mem_append_right _ (List.mem_of_getElem? (i := 94) (by decide +kernel))) rfl, zini_X5, zin (List.mem_append_right _ (List.mem_of_getElem? (i := 95) (by decide +kernel))) rfl⟩
theorem zfw_X7_26 : zFw RX7 26 7 2 RX7 TX7 7 tyX7 := ⟨zin_X7, rfl, ⟨by decide, rfl⟩, tyX7_ok, nmX7, zin (List.mem_append_right _ (List.mem_of_getElem? (i := 277) (by decide +kernel))) rfl⟩
theorem zfw_X7_30 : zFw RX7 30 7 3 RX7 TX7 7 tyX7 := ⟨zin_X7, rfl, ⟨by decide, rfl⟩, tyX7_ok, nmX7, zin (List.mem_append_right _ (List.mem_of_getElem? (i := 278) (by decide +kernel))) rfl⟩
theorem zfw_X7_33 : zFw RX7 33 7 4 RX7 TX7 7 tyX7 := ⟨zin_X7, rfl, ⟨by decide, rfl⟩, tyX7_ok, nmX7, zin (List.mem_append_right _ (List.mem_of_getElem? (i := 279) (by decide +kernel))) rfl⟩
theorem zcl_X7_36 : Cond.classLink RX7 36 RX2 ∈ zALL := zin (List.mem_append_right _ (List.mem_of_getElem? (i := 255) (by decide +kernel))) rfl
theorem zins_X2 : Cond.instantiable RX2 3 ∈ zALL := zin (List.mem_append_right _ (List.mem_of_getElem? (i := 256) (by decide +kernel))) rfl
theorem zdf_X2 : ∀ j, j < 3 → defaultValue (tyX2 j) = vp_V [.null, .int 0, .int 0] j := by decide +kernel
theorem ziw_X7_38 : zIw RX7 38 yX2_init cX2_init 2 := ⟨by decide +kernel, rfl, Or.inl (zin (List.mem_append_right _ (List.mem_of_getElem? (i := 257) (by decide +kernel))) rfl), zin (List.mem_append_right _ (List.mem_of_getElem? (i := 258) (by decide +kernel))) rfl, zini_X2, zin (List.mem_append_right _ (List.mem_of_getElem? (i := 259) (by decide +kernel))) rfl⟩
theorem zfw_X7_39 : zFw RX7 39 7 5 RX7 TX7 7 tyX7 := ⟨zin_X7, rfl, ⟨by decide, rfl⟩, tyX7_ok, nmX7, zin (List.mem_append_right _ (List.mem_of_getElem? (i := 280) (by decide +kernel))) rfl⟩
theorem zfw_X7_43 : zFw RX7 43 7 6 RX7 TX7 7 tyX7 := ⟨zin_X7, rfl, ⟨by decide, rfl⟩, tyX7_ok, nmX7, zin (List.mem_append_right _ (List.mem_of_getElem? (i := 281) (by decide +kernel))) rfl⟩
abbrev zrm_X2_init : Room := { frames := 4, cells := 361, slots := 2344, locals := 73 }
section ZBLD
variable {p : Program} {l : Launch} {e : Env} {s : State} {m : MethodId} {args : Array Value} {below : List Frame} {meth : Method} {c : Code} {Q : State → Prop}
variable {D : va_G} {b0 : Nat} {tA : Nat → ClassId} {sa sv : Nat → Nat}
set_option maxRecDepth 20000 in
theorem zi_X2_h (X : zX p l e zrm_X2_init s m args below meth c RX2 cX2_init 2 none D b0 tA sa sv) (hT : zTa tA s) (hRA : zRA (tA 13) RX5 s) {a : Nat} {E0 : zE}
    (kk : ∀ (cells slots : Nat) (E : zE), cells ≤ 361 → slots ≤ 2344 → E a = some (.inr (2, [.ref (a + 1), .int 0, .int 0])) → E (a + 1) = some (.inl (tA 13, 8, .inr (.inr (.inr (.inr (fun i => if i < 8 then some (a + 2 + 45 * i) else none)))))) → (∀ i, i < 8 → zBk tA kR1 iR1 E (a + 2 + 45 * i) 45) → (∀ q, (q ≠ a + 1 ∧ (q < a + 2 ∨ a + 362 ≤ q)) → E q = E0 q) → zB p l e zrm_X2_init s m args below meth c 2 D b0 cells slots Q (a + 362) E 43 [some (vr a 0), some (vi (nI 8))] []) :
    ∀ (n j cells slots : Nat) (E : zE), j + n = 8 → cells ≤ 1 + 45 * j → slots ≤ 8 + 292 * j → E a = some (.inr (2, [.ref (a + 1), .int 0, .int 0])) → E (a + 1) = some (.inl (tA 13, 8, .inr (.inr (.inr (.inr (fun i => if i < j then some (a + 2 + 45 * i) else none)))))) → (∀ i, i < j → zBk tA kR1 iR1 E (a + 2 + 45 * i) 45) → (∀ q, (q ≠ a + 1 ∧ (q < a + 2 ∨ a + 362 ≤ q)) → E q = E0 q) → zB p l e zrm_X2_init s m args below meth c 2 D b0 cells slots Q (a + 2 + 45 * j) E 15 [some (vr a 0), some (vi (nI j))] []
  | n, j, cells, slots, E, hj, hc, hs, h0, h1, hb, ho => by
    refine zb_iload1 X dX2_init_15 ?_
    refine zb_aload0 X dX2_init_16 ?_
    refine zb_get X zfw_X2_11 h0 rfl dX2_init_17 ?_
    refine zb_alen X X.2.2.2.2.2.2.1.2.1.2.2.2.2.2.1 h1 dX2_init_20 ?_
    refine zb_icmp_ge (tgt := 43) X dX2_init_21 (by decide) (fun h => ?_) (fun h => ?_)
    · have h6 : j = 8 := by
        rw [nI_leI (by omega) (by omega)] at h
        omega
      subst h6
      refine zb_z (z2 := a + 362) (by omega) ?_
      exact kk cells slots E (by omega) (by omega) h0 h1 hb ho
    · have h6 : j < 8 := by
        rw [nI_leI (by omega) (by omega)] at h
        omega
      refine zb_aload0 X dX2_init_24 ?_
      refine zb_get X zfw_X2_11 h0 rfl dX2_init_25 ?_
      refine zb_iload1 X dX2_init_28 ?_
      refine zb_new X zin_X5 (ci := 5) rfl tyX5_ok zcl_X2_9 zins_X5 zini_X5 zdf_X5 ⟨by show cells + 1 ≤ 361; omega, by show slots + 16 ≤ 2344; omega⟩ dX2_init_29 (fun E1 g1 o1 => ?_)
      refine zb_dup X dX2_init_32 ?_
      refine zb_init X (rm9 := zrm_X5_init) ziw_X2_17 hT ⟨by decide, Nat.le_of_ble_eq_true rfl⟩ ⟨by show cells + 1 + 44 ≤ 361; omega, by show slots + 16 + 276 ≤ 2344; omega⟩ (Nat.le_of_ble_eq_true rfl) dX2_init_33 (zi_X5 g1) (fun E2 g => ?_)
      obtain ⟨g2, o2⟩ := g
      refine zb_aast X (k := 13) (n := 8) (ci := 5) (vs := zfl 5 (a + 2 + 45 * j) (fun _ => none) (iR1 0)) hRA ((o2 _ (by omega)).trans ((o1 _ (by omega)).trans h1)) (g2 0 (by decide)) rfl (vp_in_nI h6 (by omega)) dX2_init_36 (fun E3 g3 o3 => ?_)
      refine zb_iinc1 X (v := nI (j + 1)) (nI_1 j) (by decide) rfl dX2_init_37 ?_
      refine zb_goto (tgt := 15) X dX2_init_40 (by decide) ?_
      refine zb_z (z2 := a + 2 + 45 * (j + 1)) (by omega) ?_
      match n, hj with
      | 0, hj => omega
      | n + 1, hj =>
        refine zi_X2_h X hT hRA kk n (j + 1) _ _ E3 (by omega) (by show cells + 1 + 44 ≤ 1 + 45 * (j + 1); omega) (by show slots + 16 + 276 ≤ 8 + 292 * (j + 1); omega) ((o3 _ (by omega)).trans ((o2 _ (by omega)).trans ((o1 _ (by omega)).trans h0))) ?_ (fun i hi => ?_) (fun q hq => (o3 q (by omega)).trans ((o2 q (by omega)).trans ((o1 q (by omega)).trans (ho q hq))))
        · rw [g3, zrefs_up (by omega)]
        · by_cases hij : i = j
          · subst hij
            exact fun d hd => (o3 _ (by omega)).trans (g2 d hd)
          · exact fun d hd => (o3 _ (by omega)).trans ((o2 _ (by omega)).trans ((o1 _ (by omega)).trans (hb i (by omega) d hd)))
end ZBLD
set_option maxRecDepth 20000 in
theorem zi_X2 {l : Launch} {D : va_G} {b0 : Nat} {tA : Nat → ClassId} {sa sv : Nat → Nat} {a : Nat} {E : zE}
    (he : E a = some (.inr (2, [.null, .int 0, .int 0]))) : zCI l D b0 tA sa sv yX2_init cX2_init 2 zrm_X2_init a (a + 1) E (a + 362) (fun E1 => zBk tA kH iH E1 a 362 ∧ zOut E E1 a 362) := by
  refine zCI_of (by decide +kernel) (Nat.le_of_ble_eq_true rfl) rfl ?_
  intro p e s m args below meth c X hT hin2
  have X : zX p l e zrm_X2_init s m args below meth c RX2 cX2_init 2 none D b0 tA sa sv := X
  refine zb_aload0 X dX2_init_0 ?_
  refine zb_objInit X zoi_X2 zoi_im zoi_co ⟨by decide, Nat.le_of_ble_eq_true rfl⟩ dX2_init_1 ?_
  refine zb_aload0 X dX2_init_4 ?_
  refine zb_bipush (v := (8 : Int32)) X dX2_init_5 (by decide) ?_
  refine zb_anew (k := 13) (N := 8) X zcl_X2_9 hT.2.1.2.2 hT.1.2.2.2.2.2.1 (by decide) (by decide) (Nat.le_of_ble_eq_true rfl) ⟨by show 0 + 1 ≤ 361; decide, by show 0 + 8 ≤ 2344; decide⟩ dX2_init_7 (fun hRA1 E1 h1 o1 => ?_)
  refine zb_put X zfw_X2_11 (Or.inr ⟨rfl, hin2, rfl⟩) rfl rfl (Nat.le_of_ble_eq_true rfl) ((o1 a (by omega)).trans he) dX2_init_10 (fun E2 h2 o2 => ?_)
  refine zb_iconst (v := nI 0) X dX2_init_13 (by decide) ?_
  refine zb_istoreN X (i := 1) rfl (by decide) (fun k9 h9 w9 hw9 => by cases (Nat.succ.inj h9 : k9 = 0); cases hw9; rfl) dX2_init_14 ?_
  refine zb_z (z2 := a + 2 + 45 * 0) (by omega) ?_
  refine zb_alt (g := fun i => if i < 0 then some (a + 2 + 45 * i) else none) X ((o2 (a + 1) (by omega)).trans h1) (fun j hj => by rw [if_neg (by omega)]) (fun F1 u1 w1 => ?_)
  refine zi_X2_h X hT hRA1 (E0 := F1) ?_ 8 0 _ _ F1 rfl (by show 1 ≤ 1 + 45 * 0; decide) (by show 8 ≤ 8 + 292 * 0; decide) ((w1 _ (by omega)).trans h2) u1 (fun i hi => absurd hi (Nat.not_lt_zero _)) (fun _ _ => rfl)
  intro cells slots E9 hc hs v0 v1 vb vo
  refine zb_alt (g := fun i => some (a + 1 + 1 + 45 * i)) X v1 (fun j hj => by rw [if_pos (by omega)]) (fun G1 y1 p1 => ?_)
  refine zb_ret X rfl (by show _ ≤ 361; omega) (by show _ ≤ 2344; omega) (by omega) dX2_init_43 ⟨fun d hd => ?_, fun q hq => ?_⟩
  · rcases (by omega : d = 0 ∨ d = 1 ∨ (2 ≤ d ∧ d < 362)) with rfl | rfl | hd
    · exact (p1 _ (by omega)).trans v0
    · exact y1
    · have hb := vb ((d - 2) / 45) (by omega) ((d - 2) % 45) (by omega)
      have e9 : a + 2 + 45 * ((d - 2) / 45) + (d - 2) % 45 = a + d := by omega
      rw [e9] at hb
      have k9 : kH d = kR1 ((d - 2) % 45) := by unfold kH; rw [if_neg (by omega), if_neg (by omega)]
      have i9 : iH d = iR1 ((d - 2) % 45) := by funext j; unfold iH; rw [if_neg (by omega)]
      rw [k9, i9]
      exact (p1 _ (by omega)).trans hb
  · exact (p1 q (by omega)).trans ((vo q (by omega)).trans ((w1 q (by omega)).trans ((o2 q (by omega)).trans (o1 q (by omega)))))
abbrev zrm_X7_init : Room := { frames := 5, cells := 500, slots := 3734, locals := 94 }
set_option maxRecDepth 20000 in
theorem zi_X7 {l : Launch} {D : va_G} {b0 : Nat} {tA : Nat → ClassId} {sa sv : Nat → Nat} {a : Nat} {E : zE}
    (he : E a = some (.inr (7, [.null, .null, .null, .null, .null, .null, .int 0]))) : zCI l D b0 tA sa sv yX7_init cX7_init 1 zrm_X7_init a (a + 1) E (a + 501) (fun E1 => zBk tA kC iC E1 a 501 ∧ zOut E E1 a 501) := by
  refine zCI_of (by decide +kernel) (Nat.le_of_ble_eq_true rfl) rfl ?_
  intro p e s m args below meth c X hT hin2
  have X : zX p l e zrm_X7_init s m args below meth c RX7 cX7_init 1 none D b0 tA sa sv := X
  refine zb_aload0 X dX7_init_0 ?_
  refine zb_objInit X zoi_X7 zoi_im zoi_co ⟨by decide, Nat.le_of_ble_eq_true rfl⟩ dX7_init_1 ?_
  refine zb_aload0 X dX7_init_4 ?_
  refine zb_new X zin_X3 (ci := 3) rfl tyX3_ok zcl_X7_7 zins_X3 zini_X3 zdf_X3 ⟨by show 0 + 1 ≤ 500; decide, by show 0 + 9 ≤ 3734; decide⟩ dX7_init_5 (fun E1 h1 o1 => ?_)
  refine zb_dup X dX7_init_8 ?_
  refine zb_init X (rm9 := zrm_X3_init) ziw_X7_9 hT ⟨by decide, Nat.le_of_ble_eq_true rfl⟩ ⟨by show 1 + 1 ≤ 500; decide, by show 9 + 500 ≤ 3734; decide⟩ (Nat.le_of_ble_eq_true rfl) dX7_init_9 (zi_X3 h1) (fun E2 g2 => ?_)
  obtain ⟨h2, o2⟩ := g2
  refine zb_put X zfw_X7_10 (Or.inr ⟨rfl, hin2, rfl⟩) rfl rfl (Nat.le_of_ble_eq_true rfl) ((o2 a (by omega)).trans ((o1 a (by omega)).trans he)) dX7_init_12 (fun E3 h3 o3 => ?_)
  refine zb_aload0 X dX7_init_15 ?_
  refine zb_new X zin_X6 (ci := 6) rfl tyX6_ok zcl_X7_16 zins_X6 zini_X6 zdf_X6 ⟨by show 2 + 1 ≤ 500; decide, by show 509 + 2 ≤ 3734; decide⟩ dX7_init_16 (fun E4 h4 o4 => ?_)
  refine zb_dup X dX7_init_19 ?_
  refine zb_init X (rm9 := zrm_X6_init) ziw_X7_18 hT ⟨by decide, Nat.le_of_ble_eq_true rfl⟩ ⟨by show 3 + 0 ≤ 500; decide, by show 511 + 0 ≤ 3734; decide⟩ (Nat.le_of_ble_eq_true rfl) dX7_init_20 (zi_X6 h4) (fun E5 g5 => ?_)
  obtain ⟨h5, o5⟩ := g5
  refine zb_put X zfw_X7_19 (Or.inr ⟨rfl, hin2, rfl⟩) rfl rfl (Nat.le_of_ble_eq_true rfl) ((o5 a (by omega)).trans ((o4 a (by omega)).trans h3)) dX7_init_23 (fun E6 h6 o6 => ?_)
  refine zb_aload0 X dX7_init_26 ?_
  refine zb_new X zin_X5 (ci := 5) rfl tyX5_ok zcl_X7_23 zins_X5 zini_X5 zdf_X5 ⟨by show 3 + 1 ≤ 500; decide, by show 511 + 16 ≤ 3734; decide⟩ dX7_init_27 (fun E7 h7 o7 => ?_)
  refine zb_dup X dX7_init_30 ?_
  refine zb_init X (rm9 := zrm_X5_init) ziw_X7_25 hT ⟨by decide, Nat.le_of_ble_eq_true rfl⟩ ⟨by show 4 + 44 ≤ 500; decide, by show 527 + 276 ≤ 3734; decide⟩ (Nat.le_of_ble_eq_true rfl) dX7_init_31 (zi_X5 h7) (fun E8 g8 => ?_)
  obtain ⟨h8, o8⟩ := g8
  refine zb_put X zfw_X7_26 (Or.inr ⟨rfl, hin2, rfl⟩) rfl rfl (Nat.le_of_ble_eq_true rfl) ((o8 a (by omega)).trans ((o7 a (by omega)).trans h6)) dX7_init_34 (fun E9 h9 o9 => ?_)
  refine zb_aload0 X dX7_init_37 ?_
  refine zb_new X zin_X5 (ci := 5) rfl tyX5_ok zcl_X7_23 zins_X5 zini_X5 zdf_X5 ⟨by show 48 + 1 ≤ 500; decide, by show 803 + 16 ≤ 3734; decide⟩ dX7_init_38 (fun E10 h10 o10 => ?_)
  refine zb_dup X dX7_init_41 ?_
  refine zb_init X (rm9 := zrm_X5_init) ziw_X7_25 hT ⟨by decide, Nat.le_of_ble_eq_true rfl⟩ ⟨by show 49 + 44 ≤ 500; decide, by show 819 + 276 ≤ 3734; decide⟩ (Nat.le_of_ble_eq_true rfl) dX7_init_42 (zi_X5 h10) (fun E11 g11 => ?_)
  obtain ⟨h11, o11⟩ := g11
  refine zb_put X zfw_X7_30 (Or.inr ⟨rfl, hin2, rfl⟩) rfl rfl (Nat.le_of_ble_eq_true rfl) ((o11 a (by omega)).trans ((o10 a (by omega)).trans h9)) dX7_init_45 (fun E12 h12 o12 => ?_)
  refine zb_aload0 X dX7_init_48 ?_
  refine zb_new X zin_X5 (ci := 5) rfl tyX5_ok zcl_X7_23 zins_X5 zini_X5 zdf_X5 ⟨by show 93 + 1 ≤ 500; decide, by show 1095 + 16 ≤ 3734; decide⟩ dX7_init_49 (fun E13 h13 o13 => ?_)
  refine zb_dup X dX7_init_52 ?_
  refine zb_init X (rm9 := zrm_X5_init) ziw_X7_25 hT ⟨by decide, Nat.le_of_ble_eq_true rfl⟩ ⟨by show 94 + 44 ≤ 500; decide, by show 1111 + 276 ≤ 3734; decide⟩ (Nat.le_of_ble_eq_true rfl) dX7_init_53 (zi_X5 h13) (fun E14 g14 => ?_)
  obtain ⟨h14, o14⟩ := g14
  refine zb_put X zfw_X7_33 (Or.inr ⟨rfl, hin2, rfl⟩) rfl rfl (Nat.le_of_ble_eq_true rfl) ((o14 a (by omega)).trans ((o13 a (by omega)).trans h12)) dX7_init_56 (fun E15 h15 o15 => ?_)
  refine zb_aload0 X dX7_init_59 ?_
  refine zb_new X zin_X2 (ci := 2) rfl tyX2_ok zcl_X7_36 zins_X2 zini_X2 zdf_X2 ⟨by show 138 + 1 ≤ 500; decide, by show 1387 + 3 ≤ 3734; decide⟩ dX7_init_60 (fun E16 h16 o16 => ?_)
  refine zb_dup X dX7_init_63 ?_
  refine zb_init X (rm9 := zrm_X2_init) ziw_X7_38 hT ⟨by decide, Nat.le_of_ble_eq_true rfl⟩ ⟨by show 139 + 361 ≤ 500; decide, by show 1390 + 2344 ≤ 3734; decide⟩ (Nat.le_of_ble_eq_true rfl) dX7_init_64 (zi_X2 h16) (fun E17 g17 => ?_)
  obtain ⟨h17, o17⟩ := g17
  refine zb_put X zfw_X7_39 (Or.inr ⟨rfl, hin2, rfl⟩) rfl rfl (Nat.le_of_ble_eq_true rfl) ((o17 a (by omega)).trans ((o16 a (by omega)).trans h15)) dX7_init_67 (fun E18 h18 o18 => ?_)
  refine zb_aload0 X dX7_init_70 ?_
  refine zb_iconst (v := (-1 : Int32)) X dX7_init_71 (by decide) ?_
  refine zb_put X zfw_X7_43 (Or.inl rfl) rfl rfl (Nat.le_of_ble_eq_true rfl) h18 dX7_init_72 (fun E19 h19 o19 => ?_)
  refine zb_ret X rfl (by decide) (by decide) (by omega) dX7_init_75 ⟨fun d hd => ?_, fun q hq => ?_⟩
  · rcases (by omega : d = 0 ∨ d = 1 ∨ d = 2 ∨ d = 3 ∨ (4 ≤ d ∧ d < 49) ∨ (49 ≤ d ∧ d < 94) ∨ (94 ≤ d ∧ d < 139) ∨ (139 ≤ d ∧ d < 501)) with rfl | rfl | rfl | rfl | hd | hd | hd | hd
    · exact h19
    · exact ((o19 (a + 1) (by omega)).trans ((o18 (a + 1) (by omega)).trans ((o17 (a + 1) (by omega)).trans ((o16 (a + 1) (by omega)).trans ((o15 (a + 1) (by omega)).trans ((o14 (a + 1) (by omega)).trans ((o13 (a + 1) (by omega)).trans ((o12 (a + 1) (by omega)).trans ((o11 (a + 1) (by omega)).trans ((o10 (a + 1) (by omega)).trans ((o9 (a + 1) (by omega)).trans ((o8 (a + 1) (by omega)).trans ((o7 (a + 1) (by omega)).trans ((o6 (a + 1) (by omega)).trans ((o5 (a + 1) (by omega)).trans ((o4 (a + 1) (by omega)).trans ((o3 (a + 1) (by omega)).trans (h2 0 (by decide)))))))))))))))))))
    · exact ((o19 (a + 2) (by omega)).trans ((o18 (a + 2) (by omega)).trans ((o17 (a + 2) (by omega)).trans ((o16 (a + 2) (by omega)).trans ((o15 (a + 2) (by omega)).trans ((o14 (a + 2) (by omega)).trans ((o13 (a + 2) (by omega)).trans ((o12 (a + 2) (by omega)).trans ((o11 (a + 2) (by omega)).trans ((o10 (a + 2) (by omega)).trans ((o9 (a + 2) (by omega)).trans ((o8 (a + 2) (by omega)).trans ((o7 (a + 2) (by omega)).trans ((o6 (a + 2) (by omega)).trans ((o5 (a + 2) (by omega)).trans ((o4 (a + 2) (by omega)).trans ((o3 (a + 2) (by omega)).trans (h2 1 (by decide)))))))))))))))))))
    · exact ((o19 (a + 3) (by omega)).trans ((o18 (a + 3) (by omega)).trans ((o17 (a + 3) (by omega)).trans ((o16 (a + 3) (by omega)).trans ((o15 (a + 3) (by omega)).trans ((o14 (a + 3) (by omega)).trans ((o13 (a + 3) (by omega)).trans ((o12 (a + 3) (by omega)).trans ((o11 (a + 3) (by omega)).trans ((o10 (a + 3) (by omega)).trans ((o9 (a + 3) (by omega)).trans ((o8 (a + 3) (by omega)).trans ((o7 (a + 3) (by omega)).trans ((o6 (a + 3) (by omega)).trans (h5 0 (by decide))))))))))))))))
    · obtain ⟨k9, rfl⟩ : ∃ k9, d = 4 + k9 := ⟨d - 4, by omega⟩
      have kq : kC (4 + k9) = kR1 k9 := by unfold kC; rw [if_neg (by omega), if_neg (by omega), if_neg (by omega), if_neg (by omega), if_pos (by omega), Nat.add_sub_cancel_left]
      have iq : iC (4 + k9) = iR1 k9 := by funext j; unfold iC; rw [if_neg (by omega), if_neg (by omega), if_pos (by omega), Nat.add_sub_cancel_left]
      rw [kq, iq, ← Nat.add_assoc]
      exact ((o19 _ (by omega)).trans ((o18 _ (by omega)).trans ((o17 _ (by omega)).trans ((o16 _ (by omega)).trans ((o15 _ (by omega)).trans ((o14 _ (by omega)).trans ((o13 _ (by omega)).trans ((o12 _ (by omega)).trans ((o11 _ (by omega)).trans ((o10 _ (by omega)).trans ((o9 _ (by omega)).trans (h8 k9 (by omega)))))))))))))
    · obtain ⟨k9, rfl⟩ : ∃ k9, d = 49 + k9 := ⟨d - 49, by omega⟩
      have kq : kC (49 + k9) = kR1 k9 := by unfold kC; rw [if_neg (by omega), if_neg (by omega), if_neg (by omega), if_neg (by omega), if_neg (by omega), if_pos (by omega), Nat.add_sub_cancel_left]
      have iq : iC (49 + k9) = iR1 k9 := by funext j; unfold iC; rw [if_neg (by omega), if_neg (by omega), if_neg (by omega), if_pos (by omega), Nat.add_sub_cancel_left]
      rw [kq, iq, ← Nat.add_assoc]
      exact ((o19 _ (by omega)).trans ((o18 _ (by omega)).trans ((o17 _ (by omega)).trans ((o16 _ (by omega)).trans ((o15 _ (by omega)).trans ((o14 _ (by omega)).trans ((o13 _ (by omega)).trans ((o12 _ (by omega)).trans (h11 k9 (by omega))))))))))
    · obtain ⟨k9, rfl⟩ : ∃ k9, d = 94 + k9 := ⟨d - 94, by omega⟩
      have kq : kC (94 + k9) = kR1 k9 := by unfold kC; rw [if_neg (by omega), if_neg (by omega), if_neg (by omega), if_neg (by omega), if_neg (by omega), if_neg (by omega), if_pos (by omega), Nat.add_sub_cancel_left]
      have iq : iC (94 + k9) = iR1 k9 := by funext j; unfold iC; rw [if_neg (by omega), if_neg (by omega), if_neg (by omega), if_neg (by omega), if_pos (by omega), Nat.add_sub_cancel_left]
      rw [kq, iq, ← Nat.add_assoc]
      exact ((o19 _ (by omega)).trans ((o18 _ (by omega)).trans ((o17 _ (by omega)).trans ((o16 _ (by omega)).trans ((o15 _ (by omega)).trans (h14 k9 (by omega)))))))
    · obtain ⟨k9, rfl⟩ : ∃ k9, d = 139 + k9 := ⟨d - 139, by omega⟩
      have kq : kC (139 + k9) = kH k9 := by unfold kC; rw [if_neg (by omega), if_neg (by omega), if_neg (by omega), if_neg (by omega), if_neg (by omega), if_neg (by omega), if_neg (by omega), Nat.add_sub_cancel_left]
      have iq : iC (139 + k9) = iH k9 := by funext j; unfold iC; rw [if_neg (by omega), if_neg (by omega), if_neg (by omega), if_neg (by omega), if_neg (by omega), Nat.add_sub_cancel_left]
      rw [kq, iq, ← Nat.add_assoc]
      exact ((o19 _ (by omega)).trans ((o18 _ (by omega)).trans (h17 k9 (by omega))))
  · exact ((o19 q (by omega)).trans ((o18 q (by omega)).trans ((o17 q (by omega)).trans ((o16 q (by omega)).trans ((o15 q (by omega)).trans ((o14 q (by omega)).trans ((o13 q (by omega)).trans ((o12 q (by omega)).trans ((o11 q (by omega)).trans ((o10 q (by omega)).trans ((o9 q (by omega)).trans ((o8 q (by omega)).trans ((o7 q (by omega)).trans ((o6 q (by omega)).trans ((o5 q (by omega)).trans ((o4 q (by omega)).trans ((o3 q (by omega)).trans ((o2 q (by omega)).trans (o1 q (by omega))))))))))))))))))))

