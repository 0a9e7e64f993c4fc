/-! ===== constructors ===== -/
def kG1 : Nat → Nat | 0 => 1 | 1 => 4 | 2 => 10 | 3 => 4 | _ => 10
def iG1 (d j : Nat) : Int32 := if d = 0 ∧ (j = 4 ∨ j = 8) then -1 else 0
def kL1 : Nat → Nat | 0 => 4 | _ => 10
def kI1 : Nat → Nat | 0 => 3 | _ => 9
def i00 (_ _ : Nat) : Int32 := 0
def kR1 (d : Nat) : Nat := if d = 0 then 5 else if d = 1 then 12 else if d = 2 then 11 else if d < 33 then kG1 ((d - 3) % 5) else 0
def iR1 (d j : Nat) : Int32 := if d = 0 then (if j = 4 then 3 else if j = 5 then 2 else 0) else if 3 ≤ d ∧ d < 33 then iG1 ((d - 3) % 5) j else 0
def zBk (tA : Nat → ClassId) (kk : Nat → Nat) (ii : Nat → Nat → Int32) (E : zE) (r n : Nat) : Prop := ∀ d, d < n → E (r + d) = some (zcell tA (kk d) (r + d) (fun _ => none) (ii d))
def zOut (E E1 : zE) (r n : Nat) : Prop := ∀ q, q < r ∨ r + n ≤ q → E1 q = E q
theorem arrV_same {cA : ClassId} {n : Nat} {f g : Nat → Value} (h : ∀ j, j < n → f j = g j) : arrV cA n f = arrV cA n g := by
  unfold arrV
  congr 1
  apply congrArg
  funext j
  exact h j.1 j.2
section ZBLD
variable {p : Program} {l : Launch} {e : Env} {R : Room} {s : State} {m : MethodId} {args : Array Value} {below : List Frame} {meth : Method} {c : Code} {cells slots : Nat} {Q : State → Prop}
variable {cc : ByteArray} {pc nL z : Nat} {D : va_G} {b0 : Nat} {tA : Nat → ClassId} {sa sv : Nat → Nat} {own : String} {ret : Option FieldType} {lv : List (Option AV)} {st : List Value} {E : zE}
/-- beyond its end nobody sees an array of references -/
theorem zb_alt (X : zX p l e R s m args below meth c own cc nL ret D b0 tA sa sv) {a n : Nat} {cA : ClassId} {f g : Nat → Option Nat} (ha : E a = some (.inl (cA, n, .inr (.inr (.inr (.inr f)))))) (h : ∀ j, j < n → f j = g j)
    (kk : ∀ E1 : zE, E1 a = some (.inl (cA, n, .inr (.inr (.inr (.inr g))))) → (∀ q, q ≠ a → E1 q = E q) → zB p l e R s m args below meth c nL D b0 cells slots Q z E1 pc lv st) : zB p l e R s m args below meth c nL D b0 cells slots Q z E pc lv st := by
  intro ls hls H locs hz hP hS
  refine kk (zup E a (.inl (cA, n, .inr (.inr (.inr (.inr g)))))) (if_pos rfl) (fun q hq => if_neg hq) ls hls H locs hz (hP.set (hP a _ ha).2 ?_ (fun _ _ => rfl)) hS
  have h9 : H[a]? = some (vp_cell cA (n, .inr (.inr (.inr (.inr f))))) := (hP a _ ha).1
  show H[a]? = some (vp_cell cA (n, .inr (.inr (.inr (.inr g)))))
  rw [h9, vp_cell_q, vp_cell_q, arrV_same (fun j hj => by rw [h j hj])]
end ZBLD
theorem zoi_im : Cond.instanceMethod Lib.objectInit ∈ zALL := zin (List.mem_append_right _ (List.mem_of_getElem? (i := 33) (by decide +kernel))) rfl
theorem zoi_co : Cond.code Lib.objectInit ⟨#[0xb1]⟩ 1 none ∈ zALL := zin (List.mem_append_right _ (List.mem_of_getElem? (i := 34) (by decide +kernel))) rfl
theorem zoi_X0 : Cond.methodLink RX0 3 Lib.objectInit ∈ zALL := zin (List.mem_append_right _ (List.mem_of_getElem? (i := 165) (by decide +kernel))) rfl
theorem zoi_X6 : Cond.methodLink RX6 3 Lib.objectInit ∈ zALL := zin (List.mem_append_right _ (List.mem_of_getElem? (i := 81) (by decide +kernel))) rfl
theorem zoi_X3 : Cond.methodLink RX3 3 Lib.objectInit ∈ zALL := zin (List.mem_append_right _ (List.mem_of_getElem? (i := 40) (by decide +kernel))) rfl
theorem zac_byte : Cond.arrayClass (newarray.typeOf .byte) ∈ zALL := zin (List.mem_append_right _ (List.mem_of_getElem? (i := 75) (by decide +kernel))) rfl
theorem zfw_X3_9 : zFw RX3 9 3 0 RX3 TX3 9 tyX3 := ⟨zin_X3, rfl, ⟨by decide, rfl⟩, tyX3_ok, nmX3, zin (List.mem_append_right _ (List.mem_of_getElem? (i := 41) (by decide +kernel))) rfl⟩
theorem zoi_X4 : Cond.methodLink RX4 3 Lib.objectInit ∈ zALL := zin (List.mem_append_right _ (List.mem_of_getElem? (i := 111) (by decide +kernel))) rfl
theorem zac_int : Cond.arrayClass (newarray.typeOf .int) ∈ zALL := zin (List.mem_append_right _ (List.mem_of_getElem? (i := 122) (by decide +kernel))) rfl
theorem zfw_X4_9 : zFw RX4 9 4 0 RX4 TX4 2 tyX4 := ⟨zin_X4, rfl, ⟨by decide, rfl⟩, tyX4_ok, nmX4, zin (List.mem_append_right _ (List.mem_of_getElem? (i := 112) (by decide +kernel))) rfl⟩
theorem zoi_X1 : Cond.methodLink RX1 3 Lib.objectInit ∈ zALL := zin (List.mem_append_right _ (List.mem_of_getElem? (i := 105) (by decide +kernel))) rfl
theorem zcl_X1_9 : Cond.classLink RX1 9 RX4 ∈ zALL := zin (List.mem_append_right _ (List.mem_of_getElem? (i := 106) (by decide +kernel))) rfl
theorem zins_X4 : Cond.instantiable RX4 2 ∈ zALL := zin (List.mem_append_right _ (List.mem_of_getElem? (i := 107) (by decide +kernel))) rfl
theorem zdf_X4 : ∀ j, j < 2 → defaultValue (tyX4 j) = vp_V [.null, .int 0] j := by decide +kernel
theorem ziw_X1_11 : zIw RX1 11 yX4_init cX4_init 1 := ⟨by decide +kernel, rfl, Or.inr (List.mem_append_right _ (List.mem_of_getElem? (i := 108) (by decide +kernel))), zin (List.mem_append_right _ (List.mem_of_getElem? (i := 109) (by decide +kernel))) rfl, zini_X4, zin (List.mem_append_right _ (List.mem_of_getElem? (i := 110) (by decide +kernel))) rfl⟩
theorem zfw_X1_12 : zFw RX1 12 1 0 RX1 TX1 9 tyX1 := ⟨zin_X1, rfl, ⟨by decide, rfl⟩, tyX1_ok, nmX1, zin (List.mem_append_right _ (List.mem_of_getElem? (i := 123) (by decide +kernel))) rfl⟩
theorem zfw_X1_18 : zFw RX1 18 1 1 RX1 TX1 9 tyX1 := ⟨zin_X1, rfl, ⟨by decide, rfl⟩, tyX1_ok, nmX1, zin (List.mem_append_right _ (List.mem_of_getElem? (i := 126) (by decide +kernel))) rfl⟩
theorem zfw_X1_21 : zFw RX1 21 1 4 RX1 TX1 9 tyX1 := ⟨zin_X1, rfl, ⟨by decide, rfl⟩, tyX1_ok, nmX1, zin (List.mem_append_right _ (List.mem_of_getElem? (i := 134) (by decide +kernel))) rfl⟩
theorem zfw_X1_25 : zFw RX1 25 1 8 RX1 TX1 9 tyX1 := ⟨zin_X1, rfl, ⟨by decide, rfl⟩, tyX1_ok, nmX1, zin (List.mem_append_right _ (List.mem_of_getElem? (i := 141) (by decide +kernel))) rfl⟩
abbrev zrm_X0_init : Room := { frames := 1, cells := 0, slots := 0, locals := 12 }
set_option maxRecDepth 20000 in
theorem zi_X0 {l : Launch} {D : va_G} {b0 : Nat} {tA : Nat → ClassId} {sa sv : Nat → Nat} {a : Nat} {E : zE}
    (he : E a = some (.inr (0, [.int 0, .int 0, .int 0, .int 0, .int 0]))) : zCI l D b0 tA sa sv yX0_init cX0_init 1 zrm_X0_init a (a + 1) E (a + 1) (fun E1 => zBk tA (fun _ => 0) i00 E1 a 1 ∧ zOut E E1 a 1) := by
  refine zCI_of (by decide +kernel) (Nat.le_of_ble_eq_true rfl) rfl ?_
  intro p e s m args below meth c X hT hin2
  have X : zX p l e zrm_X0_init s m args below meth c RX0 cX0_init 1 none D b0 tA sa sv := X
  refine zb_aload0 X dX0_init_0 ?_
  refine zb_objInit X zoi_X0 zoi_im zoi_co ⟨by decide, Nat.le_of_ble_eq_true rfl⟩ dX0_init_1 ?_
  refine zb_ret X rfl (by decide) (by decide) (by omega) dX0_init_4 ⟨fun d hd => ?_, fun q hq => ?_⟩
  · obtain rfl : d = 0 := by omega
    exact he
  · exact rfl
abbrev zrm_X6_init : Room := { frames := 1, cells := 0, slots := 0, locals := 12 }
set_option maxRecDepth 20000 in
theorem zi_X6 {l : Launch} {D : va_G} {b0 : Nat} {tA : Nat → ClassId} {sa sv : Nat → Nat} {a : Nat} {E : zE}
    (he : E a = some (.inr (6, [.int 0, .int 0]))) : zCI l D b0 tA sa sv yX6_init cX6_init 1 zrm_X6_init a (a + 1) E (a + 1) (fun E1 => zBk tA (fun _ => 6) i00 E1 a 1 ∧ zOut E E1 a 1) := by
  refine zCI_of (by decide +kernel) (Nat.le_of_ble_eq_true rfl) rfl ?_
  intro p e s m args below meth c X hT hin2
  have X : zX p l e zrm_X6_init s m args below meth c RX6 cX6_init 1 none D b0 tA sa sv := X
  refine zb_aload0 X dX6_init_0 ?_
  refine zb_objInit X zoi_X6 zoi_im zoi_co ⟨by decide, Nat.le_of_ble_eq_true rfl⟩ dX6_init_1 ?_
  refine zb_ret X rfl (by decide) (by decide) (by omega) dX6_init_4 ⟨fun d hd => ?_, fun q hq => ?_⟩
  · obtain rfl : d = 0 := by omega
    exact he
  · exact rfl
abbrev zrm_X3_init : Room := { frames := 1, cells := 1, slots := 500, locals := 12 }
set_option maxRecDepth 20000 in
theorem zi_X3 {l : Launch} {D : va_G} {b0 : Nat} {tA : Nat → ClassId} {sa sv : Nat → Nat} {a : Nat} {E : zE}
    (he : E a = some (.inr (3, [.null, .int 0, .int 0, .int 0, .int 0, .int 0, .int 0, .int 0, .int 0]))) : zCI l D b0 tA sa sv yX3_init cX3_init 1 zrm_X3_init a (a + 1) E (a + 2) (fun E1 => zBk tA kI1 i00 E1 a 2 ∧ zOut E E1 a 2) := by
  refine zCI_of (by decide +kernel) (Nat.le_of_ble_eq_true rfl) rfl ?_
  intro p e s m args below meth c X hT hin2
  have X : zX p l e zrm_X3_init s m args below meth c RX3 cX3_init 1 none D b0 tA sa sv := X
  refine zb_aload0 X dX3_init_0 ?_
  refine zb_objInit X zoi_X3 zoi_im zoi_co ⟨by decide, Nat.le_of_ble_eq_true rfl⟩ dX3_init_1 ?_
  refine zb_aload0 X dX3_init_4 ?_
  refine zb_sipush (v := (500 : Int32)) X dX3_init_5 (by decide) ?_
  refine zb_newa (k := 9) (N := 500) (w := (500, .inl (fun _ => 0))) X zac_byte (fun _ => rfl) hT.1.1 (by decide) (by decide) (Nat.le_of_ble_eq_true rfl) ⟨by show 0 + 1 ≤ 1; decide, by show 0 + 500 ≤ 500; decide⟩ dX3_init_8 (fun E1 h1 o1 => ?_)
  refine zb_put X zfw_X3_9 (Or.inr ⟨rfl, hin2, rfl⟩) rfl rfl (Nat.le_of_ble_eq_true rfl) ((o1 a (by omega)).trans he) dX3_init_10 (fun E2 h2 o2 => ?_)
  refine zb_ret X rfl (by decide) (by decide) (by omega) dX3_init_13 ⟨fun d hd => ?_, fun q hq => ?_⟩
  · rcases (by omega : d = 0 ∨ d = 1) with rfl | rfl
    · exact h2
    · exact ((o2 (a + 1) (by omega)).trans h1)
  · exact ((o2 q (by omega)).trans (o1 q (by omega)))
abbrev zrm_X4_init : Room := { frames := 1, cells := 1, slots := 10, locals := 12 }
set_option maxRecDepth 20000 in
theorem zi_X4 {l : Launch} {D : va_G} {b0 : Nat} {tA : Nat → ClassId} {sa sv : Nat → Nat} {a : Nat} {E : zE}
    (he : E a = some (.inr (4, [.null, .int 0]))) : zCI l D b0 tA sa sv yX4_init cX4_init 1 zrm_X4_init a (a + 1) E (a + 2) (fun E1 => zBk tA kL1 i00 E1 a 2 ∧ zOut E E1 a 2) := by
  refine zCI_of (by decide +kernel) (Nat.le_of_ble_eq_true rfl) rfl ?_
  intro p e s m args below meth c X hT hin2
  have X : zX p l e zrm_X4_init s m args below meth c RX4 cX4_init 1 none D b0 tA sa sv := X
  refine zb_aload0 X dX4_init_0 ?_
  refine zb_objInit X zoi_X4 zoi_im zoi_co ⟨by decide, Nat.le_of_ble_eq_true rfl⟩ dX4_init_1 ?_
  refine zb_aload0 X dX4_init_4 ?_
  refine zb_bipush (v := (10 : Int32)) X dX4_init_5 (by decide) ?_
  refine zb_newa (k := 10) (N := 10) (w := (10, .inl (fun _ => 0))) X zac_int (fun _ => rfl) hT.1.2.1 (by decide) (by decide) (Nat.le_of_ble_eq_true rfl) ⟨by show 0 + 1 ≤ 1; decide, by show 0 + 10 ≤ 10; decide⟩ dX4_init_7 (fun E1 h1 o1 => ?_)
  refine zb_put X zfw_X4_9 (Or.inr ⟨rfl, hin2, rfl⟩) rfl rfl (Nat.le_of_ble_eq_true rfl) ((o1 a (by omega)).trans he) dX4_init_9 (fun E2 h2 o2 => ?_)
  refine zb_ret X rfl (by decide) (by decide) (by omega) dX4_init_12 ⟨fun d hd => ?_, fun q hq => ?_⟩
  · rcases (by omega : d = 0 ∨ d = 1) with rfl | rfl
    · exact h2
    · exact ((o2 (a + 1) (by omega)).trans h1)
  · exact ((o2 q (by omega)).trans (o1 q (by omega)))
abbrev zrm_X1_init : Room := { frames := 2, cells := 4, slots := 24, locals := 32 }
set_option maxRecDepth 20000 in
theorem zi_X1 {l : Launch} {D : va_G} {b0 : Nat} {tA : Nat → ClassId} {sa sv : Nat → Nat} {a : Nat} {E : zE}
    (he : E a = some (.inr (1, [.null, .null, .int 0, .int 0, .int 0, .int 0, .int 0, .int 0, .int 0]))) : zCI l D b0 tA sa sv yX1_init cX1_init 1 zrm_X1_init a (a + 1) E (a + 5) (fun E1 => zBk tA kG1 iG1 E1 a 5 ∧ zOut E E1 a 5) := by
  refine zCI_of (by decide +kernel) (Nat.le_of_ble_eq_true rfl) rfl ?_
  intro p e s m args below meth c X hT hin2
  have X : zX p l e zrm_X1_init s m args below meth c RX1 cX1_init 1 none D b0 tA sa sv := X
  refine zb_aload0 X dX1_init_0 ?_
  refine zb_objInit X zoi_X1 zoi_im zoi_co ⟨by decide, Nat.le_of_ble_eq_true rfl⟩ dX1_init_1 ?_
  refine zb_aload0 X dX1_init_4 ?_
  refine zb_new X zin_X4 (ci := 4) rfl tyX4_ok zcl_X1_9 zins_X4 zini_X4 zdf_X4 ⟨by show 0 + 1 ≤ 4; decide, by show 0 + 2 ≤ 24; decide⟩ dX1_init_5 (fun E1 h1 o1 => ?_)
  refine zb_dup X dX1_init_8 ?_
  refine zb_init X (rm9 := zrm_X4_init) ziw_X1_11 hT ⟨by decide, Nat.le_of_ble_eq_true rfl⟩ ⟨by show 1 + 1 ≤ 4; decide, by show 2 + 10 ≤ 24; decide⟩ (Nat.le_of_ble_eq_true rfl) dX1_init_9 (zi_X4 h1) (fun E2 g2 => ?_)
  obtain ⟨h2, o2⟩ := g2
  refine zb_put X zfw_X1_12 (Or.inr ⟨rfl, hin2, rfl⟩) rfl rfl (Nat.le_of_ble_eq_true rfl) ((o2 a (by omega)).trans ((o1 a (by omega)).trans he)) dX1_init_12 (fun E3 h3 o3 => ?_)
  refine zb_aload0 X dX1_init_15 ?_
  refine zb_new X zin_X4 (ci := 4) rfl tyX4_ok zcl_X1_9 zins_X4 zini_X4 zdf_X4 ⟨by show 2 + 1 ≤ 4; decide, by show 12 + 2 ≤ 24; decide⟩ dX1_init_16 (fun E4 h4 o4 => ?_)
  refine zb_dup X dX1_init_19 ?_
  refine zb_init X (rm9 := zrm_X4_init) ziw_X1_11 hT ⟨by decide, Nat.le_of_ble_eq_true rfl⟩ ⟨by show 3 + 1 ≤ 4; decide, by show 14 + 10 ≤ 24; decide⟩ (Nat.le_of_ble_eq_true rfl) dX1_init_20 (zi_X4 h4) (fun E5 g5 => ?_)
  obtain ⟨h5, o5⟩ := g5
  refine zb_put X zfw_X1_18 (Or.inr ⟨rfl, hin2, rfl⟩) rfl rfl (Nat.le_of_ble_eq_true rfl) ((o5 a (by omega)).trans ((o4 a (by omega)).trans h3)) dX1_init_23 (fun E6 h6 o6 => ?_)
  refine zb_aload0 X dX1_init_26 ?_
  refine zb_iconst (v := (-1 : Int32)) X dX1_init_27 (by decide) ?_
  refine zb_put X zfw_X1_21 (Or.inl rfl) rfl rfl (Nat.le_of_ble_eq_true rfl) h6 dX1_init_28 (fun E7 h7 o7 => ?_)
  refine zb_aload0 X dX1_init_31 ?_
  refine zb_iconst (v := (-1 : Int32)) X dX1_init_32 (by decide) ?_
  refine zb_put X zfw_X1_25 (Or.inl rfl) rfl rfl (Nat.le_of_ble_eq_true rfl) h7 dX1_init_33 (fun E8 h8 o8 => ?_)
  refine zb_ret X rfl (by decide) (by decide) (by omega) dX1_init_36 ⟨fun d hd => ?_, fun q hq => ?_⟩
  · rcases (by omega : d = 0 ∨ d = 1 ∨ d = 2 ∨ d = 3 ∨ d = 4) with rfl | rfl | rfl | rfl | rfl
    · exact h8
    · exact ((o8 (a + 1) (by omega)).trans ((o7 (a + 1) (by omega)).trans ((o6 (a + 1) (by omega)).trans ((o5 (a + 1) (by omega)).trans ((o4 (a + 1) (by omega)).trans ((o3 (a + 1) (by omega)).trans (h2 0 (by decide))))))))
    · exact ((o8 (a + 2) (by omega)).trans ((o7 (a + 2) (by omega)).trans ((o6 (a + 2) (by omega)).trans ((o5 (a + 2) (by omega)).trans ((o4 (a + 2) (by omega)).trans ((o3 (a + 2) (by omega)).trans (h2 1 (by decide))))))))
    · exact ((o8 (a + 3) (by omega)).trans ((o7 (a + 3) (by omega)).trans ((o6 (a + 3) (by omega)).trans (h5 0 (by decide)))))
    · exact ((o8 (a + 4) (by omega)).trans ((o7 (a + 4) (by omega)).trans ((o6 (a + 4) (by omega)).trans (h5 1 (by decide)))))
  · exact ((o8 q (by omega)).trans ((o7 q (by omega)).trans ((o6 q (by omega)).trans ((o5 q (by omega)).trans ((o4 q (by omega)).trans ((o3 q (by omega)).trans ((o2 q (by omega)).trans (o1 q (by omega)))))))))
