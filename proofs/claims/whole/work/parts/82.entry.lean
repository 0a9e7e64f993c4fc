/-! ===== the law's entry ===== -/
theorem zcl_L_8 : Cond.classLink RL 8 RX7 ∈ zALL := zin (List.mem_append_right _ (List.mem_of_getElem? (i := 23) (by decide +kernel))) rfl
theorem zcl_L_85 : Cond.classLink RL 85 RX8 ∈ zALL := zin (List.mem_append_right _ (List.mem_of_getElem? (i := 1042) (by decide +kernel))) rfl
theorem zins_X7 : Cond.instantiable RX7 7 ∈ zALL := zin (List.mem_append_right _ (List.mem_of_getElem? (i := 24) (by decide +kernel))) rfl
theorem zdf_X7 : ∀ j, j < 7 → defaultValue (tyX7 j) = vp_V [.null, .null, .null, .null, .null, .null, .int 0] j := by decide +kernel
theorem zins_X8 : Cond.instantiable RX8 16 ∈ zALL := zin (List.mem_append_right _ (List.mem_of_getElem? (i := 1043) (by decide +kernel))) rfl
theorem zdf_X8 : ∀ j, j < 16 → defaultValue (tyX8 j) = vp_V [.int 0, .null, .int 0, .int 0, .int 0, .int 0, .int 0, .int 0, .null, .null, .null, .null, .int 0, .int 0, .int 0, .int 0] j := by decide +kernel
theorem ziw_L_84 : zIw RL 84 yX7_init cX7_init 1 := ⟨by decide +kernel, rfl, Or.inl (zin (List.mem_append_right _ (List.mem_of_getElem? (i := 25) (by decide +kernel))) rfl), zin (List.mem_append_right _ (List.mem_of_getElem? (i := 26) (by decide +kernel))) rfl, zini_X7, zin (List.mem_append_right _ (List.mem_of_getElem? (i := 27) (by decide +kernel))) rfl⟩
theorem ziw_L_87 : zIw RL 87 yX8_init cX8_init 1 := ⟨by decide +kernel, rfl, Or.inl (zin (List.mem_append_right _ (List.mem_of_getElem? (i := 1044) (by decide +kernel))) rfl), zin (List.mem_append_right _ (List.mem_of_getElem? (i := 1045) (by decide +kernel))) rfl, zini_X8, zin (List.mem_append_right _ (List.mem_of_getElem? (i := 1046) (by decide +kernel))) rfl⟩
theorem zac_long : Cond.arrayClass (newarray.typeOf .long) ∈ zALL := zin (List.mem_append_right _ (List.mem_of_getElem? (i := 1414) (by decide +kernel))) rfl
theorem zKn_at {s : State} {av : Array Value} (hts : ∀ w ∈ lw_tbl, w.before av s = true) : ∃ D : va_G, va_K D vwCl [] s := by
  have hz : ∀ w ∈ zALL, w.before av s = true := fun w h => hts w (List.mem_filter.mp h).1
  have g : ∀ k : Nat, ∃ q9 : ClassId × (Nat → Nat), ∀ q : vw_C, vwCl[k]? = some q → u_Kn s q.1 q.2.1 q.2.2 q9.1 q9.2 := by
    intro k
    match k with
    | 0 => obtain ⟨c, i, h⟩ := u_known (n := 5) hz zin_X0 (hz _ zins_X0); exact ⟨(c, i), fun q hq => by cases hq; exact h⟩
    | 1 => obtain ⟨c, i, h⟩ := u_known (n := 9) hz zin_X1 (hz _ zins_X1); exact ⟨(c, i), fun q hq => by cases hq; exact h⟩
    | 2 => obtain ⟨c, i, h⟩ := u_known (n := 3) hz zin_X2 (hz _ zins_X2); exact ⟨(c, i), fun q hq => by cases hq; exact h⟩
    | 3 => obtain ⟨c, i, h⟩ := u_known (n := 9) hz zin_X3 (hz _ zins_X3); exact ⟨(c, i), fun q hq => by cases hq; exact h⟩
    | 4 => obtain ⟨c, i, h⟩ := u_known (n := 2) hz zin_X4 (hz _ zins_X4); exact ⟨(c, i), fun q hq => by cases hq; exact h⟩
    | 5 => obtain ⟨c, i, h⟩ := u_known (n := 16) hz zin_X5 (hz _ zins_X5); exact ⟨(c, i), fun q hq => by cases hq; exact h⟩
    | 6 => obtain ⟨c, i, h⟩ := u_known (n := 2) hz zin_X6 (hz _ zins_X6); exact ⟨(c, i), fun q hq => by cases hq; exact h⟩
    | 7 => obtain ⟨c, i, h⟩ := u_known (n := 7) hz zin_X7 (hz _ zins_X7); exact ⟨(c, i), fun q hq => by cases hq; exact h⟩
    | 8 => obtain ⟨c, i, h⟩ := u_known (n := 16) hz zin_X8 (hz _ zins_X8); exact ⟨(c, i), fun q hq => by cases hq; exact h⟩
    | k + 9 => exact ⟨((0 : Nat), fun _ => 0), fun q hq => by simp [vwCl] at hq⟩
  obtain ⟨f, hf⟩ := Classical.axiomOfChoice g
  exact ⟨(fun k => (f k).1, fun k => (f k).2), fun k q hq => hf k q hq, fun k q h => by simp at h⟩
theorem zAO_of {ty : FieldType} {av : Array Value} {s : State} (h : (Cond.arrayOver ty).before av s = true) : zAO ty s := h
theorem zTa_at {s : State} {av : Array Value} (hts : ∀ w ∈ lw_tbl, w.before av s = true) : ∃ tA : Nat → ClassId, zTa tA s ∧ (ArrOfT s (tA 9) .byte ∧ ArrOfT s (tA 10) .int ∧ ArrOfT s (tA 17) .long ∧ ArrOfT s (tA 11) (.object RX0) ∧ ArrOfT s (tA 12) (.object RX1) ∧ ArrOfT s (tA 13) (.object RX5) ∧ ArrOfT s (tA 16) (.array .int)) := by
  have o0 : (Cond.arrayOver (.object RX0)).before av s = true := hts _ (List.mem_append_right _ (List.mem_of_getElem? (i := 96) (by decide +kernel)))
  have o1 : (Cond.arrayOver (.object RX1)).before av s = true := hts _ (List.mem_append_right _ (List.mem_of_getElem? (i := 94) (by decide +kernel)))
  have o5 : (Cond.arrayOver (.object RX5)).before av s = true := hts _ (List.mem_append_right _ (List.mem_of_getElem? (i := 259) (by decide +kernel)))
  have oi : (Cond.arrayOver (.array .int)).before av s = true := hts _ (List.mem_append_right _ (List.mem_of_getElem? (i := 1049) (by decide +kernel)))
  obtain ⟨c9, k9, p9, a1, a2, a3⟩ := Cond.arrayClass_spec (hts (.arrayClass .byte) (List.mem_append_right _ (List.mem_of_getElem? (i := 71) (by decide +kernel))))
  obtain ⟨c10, k10, p10, b1, b2, b3⟩ := Cond.arrayClass_spec (hts (.arrayClass .int) (List.mem_append_right _ (List.mem_of_getElem? (i := 118) (by decide +kernel))))
  obtain ⟨c17, k17, p17, d1, d2, d3⟩ := Cond.arrayClass_spec (hts (.arrayClass .long) (List.mem_append_right _ (List.mem_of_getElem? (i := 1414) (by decide +kernel))))
  obtain ⟨p11, c11, k11, -, -, e2, e3, e1⟩ := Cond.arrayOver_spec o0
  obtain ⟨p12, c12, k12, -, -, f2, f3, f1⟩ := Cond.arrayOver_spec o1
  obtain ⟨p13, c13, k13, -, -, g2, g3, g1⟩ := Cond.arrayOver_spec o5
  obtain ⟨p16, c16, k16, -, h2, h3, h1⟩ := Cond.arrayOver_specA oi
  exact ⟨fun k => if k = 9 then c9 else if k = 10 then c10 else if k = 17 then c17 else if k = 11 then c11 else if k = 12 then c12 else if k = 13 then c13 else c16,
    ⟨a1, b1, d1, e1, f1, g1, h1, zAO_of o0, zAO_of o1, zAO_of o5, zAO_of oi⟩,
    fun N z => ⟨fun k h => (by cases h), k9, a2, p9, a3⟩, fun N z => ⟨fun k h => (by cases h), k10, b2, p10, b3⟩, fun N z => ⟨fun k h => (by cases h), k17, d2, p17, d3⟩, fun N z => ⟨fun k h => (by cases h), k11, e2, p11, e3⟩, fun N z => ⟨fun k h => (by cases h), k12, f2, p12, f3⟩, fun N z => ⟨fun k h => (by cases h), k13, g2, p13, g3⟩, fun N z => ⟨fun k h => (by cases h), k16, h2, p16, h3⟩⟩
theorem zof_nat (x : Int32) : Int32.ofNat x.toBitVec.toNat = x := by
  apply Int32.toBitVec_inj.mp
  apply BitVec.eq_of_toNat_eq
  show x.toBitVec.toNat % 2 ^ 32 = x.toBitVec.toNat
  have := x.toBitVec.isLt
  omega
theorem zFl_at {s : State} {b : Nat} (hgv : (Cond.and given_1 narrow_1).before #[Value.ref b] s = true) (i : Nat) (w : Cond) (h : zFl[i]? = some w) : w.before #[Value.ref b] s = true := flat_of_before _ hgv w (List.mem_of_getElem? h)
theorem zK_at {l : Launch} (hflags : l.flags = flags0) {s : State} {b L : Nat} {xs : Nat → Int32} (hL : L ≤ 3072) (hts : ∀ w ∈ lw_tbl, w.before #[Value.ref b] s = true) (hX : va_X b L xs s s.heap) (hbl : b < s.heap.size) (hgv : (Cond.and given_1 narrow_1).before #[Value.ref b] s = true) :
    ∃ (D : va_G) (tA : Nat → ClassId) (sa sv : Nat → Nat), zK D s.heap.size tA sa sv l s ∧ zTa tA s ∧ sa 35 = b := by
  obtain ⟨D, hD⟩ := zKn_at hts
  obtain ⟨tA, hT, hA⟩ := zTa_at hts
  obtain ⟨s1, s2, hs1, hs2⟩ := zStrs hgv hts zST_in
  have hN : ∀ a : Nat, a < s.heap.size → ¬ (fun q => s.heap.size ≤ q) a := fun a h z => Nat.not_le.mpr h z
  have hf := zFl_at hgv
  refine ⟨D, tA, fun i => if i < 34 then s1 i else if i = 35 then b else s2 (i - 36), fun j => if j = 0 then L else (xs (j - 1)).toBitVec.toNat, ⟨hD, hA, fun w hw hn => va_Nw.of (zNest_tab hn) (hts w hw), Nat.le_refl _, ?_, ?_, fun i q hq => ?_, fun i hi => ?_, zNC_at hgv, ?_, ?_, ?_, ?_, hL⟩, hT, rfl⟩
  · exact vx_Zqof (hts _ (List.mem_append_right _ (List.mem_of_getElem? (i := 488) (by decide +kernel)))) (hts _ (List.mem_append_right _ (List.mem_of_getElem? (i := 10) (by decide +kernel)))) (hf 4 _ (by decide +kernel)) hN
  · exact vx_Zqof (hts _ (List.mem_append_right _ (List.mem_of_getElem? (i := 490) (by decide +kernel)))) (hts _ (List.mem_append_right _ (List.mem_of_getElem? (i := 10) (by decide +kernel)))) (hf 5 _ (by decide +kernel)) hN
  · have h9 := hs1 i q hq
    have hi := (zST_get hq).1
    show vk_R q.1 q.2.1 q.2.2 (if i < 34 then s1 i else _) s
    rw [if_pos hi]; exact h9
  · have hi20 : i < 20 := hi
    have h9 := hs2 i hi
    have e1 : (if i < 34 then s1 i else if i = 35 then b else s2 (i - 36)) = s1 i := if_pos (by omega)
    have e2 : (if 36 + i < 34 then s1 (36 + i) else if 36 + i = 35 then b else s2 (36 + i - 36)) = s2 i := by rw [if_neg (by omega), if_neg (by omega), Nat.add_sub_cancel_left]
    dsimp only
    rw [e1, e2]
    exact h9
  · unfold Launch.stackTraces
    rw [hflags]
    decide +kernel
  · exact va_Zof (hts _ (List.mem_append_right _ (List.mem_of_getElem? (i := 584) (by decide +kernel)))) (hts _ (List.mem_append_right _ (List.mem_of_getElem? (i := 15) (by decide +kernel)))) (zeq_int (hf 6 _ (by decide +kernel))) hN
  · exact va_Zqof (hts _ (List.mem_append_right _ (List.mem_of_getElem? (i := 600) (by decide +kernel)))) (hts _ (List.mem_append_right _ (List.mem_of_getElem? (i := 17) (by decide +kernel)))) (hf 7 _ (by decide +kernel)) hN
  · obtain ⟨scr, h1, h2, h3, h4, h5⟩ := hX
    refine ⟨scr, h1, h2, h3, Nat.le_of_eq h4.symm, by rw [h4]; rfl, fun j hj => ?_, hN b hbl⟩
    rw [h5 j hj]
    show some (Value.int (xs j)) = some (Value.int (Int32.ofNat (if 1 + j = 0 then L else (xs (1 + j - 1)).toBitVec.toNat)))
    rw [if_neg (by omega), Nat.add_sub_cancel_left, zof_nat]
section ZENT
variable {p : Program} {l : Launch} {e : Env} {s : State} {m : MethodId} {args : Array Value} {below : List Frame} {meth : Method} {c : Code} {Q : State → Prop}
variable {D : va_G} {b0 : Nat} {tA : Nat → ClassId} {sa sv : Nat → Nat}
theorem zb_lv {cells slots pc z : Nat} {E : zE} {lv lv2 : List (Option AV)} {st : List Value} (h : lv = lv2) (k : zB p l e room_1 s m args below meth c 9 D b0 cells slots Q z E pc lv2 st) : zB p l e room_1 s m args below meth c 9 D b0 cells slots Q z E pc lv st := h ▸ k
theorem zb_toG {cells slots pc z x : Nat} {E : zE} {lv : List (Option AV)} {K : Nat → Option Nat} {I : zI} (h : ∀ H : Heap, zhp D b0 E H → zhp D b0 (zEof tA K I) H) (hi : zinv K I) (hl : zokl sa K lv) (k : zG p l e room_1 s m args below meth c 9 D b0 tA sa cells slots Q K pc lv [] I) : zB p l e room_1 s m args below meth c 9 D b0 cells slots Q z E pc lv [] :=
  fun ls hls H locs hz hP hS => k hi trivial hl ls hls H locs (h H hP) hS
set_option maxRecDepth 20000 in
theorem zl_law (X : zX p l e room_1 s m args below meth c RL cL_law 9 (some .boolean) D b0 tA sa sv) (hT : zTa tA s) {x : Nat}
    (kend : ∀ (J : zI) (n : Nat), zG p l e room_1 s m args below meth c 9 D b0 tA sa 601024 7293034 Q (zKS x) 1716 [some (vr (sa 35) 53), some (vr x 7), some (vr (x + 501) 8), some (vr (x + 515) 17), some (vi (nI (6 * n))), none, none, none, none] [] J) :
    zB p l e room_1 s m args below meth c 9 D b0 0 0 Q x (fun _ => none) 0 [some (vr (sa 35) 53), none, none, none, none, none, none, none, none] [] := by
  refine zb_new X zin_X7 (ci := 7) rfl tyX7_ok zcl_L_8 zins_X7 zini_X7 zdf_X7 ⟨Nat.le_of_ble_eq_true rfl, Nat.le_of_ble_eq_true rfl⟩ dL_law_0 (fun E1 h1 o1 => ?_)
  refine zb_dup X dL_law_3 ?_
  refine zb_init X (rm9 := zrm_X7_init) ziw_L_84 hT ⟨by decide, Nat.le_of_ble_eq_true rfl⟩ ⟨Nat.le_of_ble_eq_true rfl, Nat.le_of_ble_eq_true rfl⟩ (Nat.le_of_ble_eq_true rfl) dL_law_4 (zi_X7 h1) (fun E2 g2 => ?_)
  obtain ⟨g2, o2⟩ := g2
  refine zb_astoreN X (i := 1) (k := 7) rfl (by decide) (fun k9 h9 w9 hw9 => by cases (Nat.succ.inj h9 : k9 = 0); cases hw9; rfl) dL_law_7 ?_
  refine zb_new X zin_X8 (ci := 8) rfl tyX8_ok zcl_L_85 zins_X8 zini_X8 zdf_X8 ⟨Nat.le_of_ble_eq_true rfl, Nat.le_of_ble_eq_true rfl⟩ dL_law_8 (fun E3 h3 o3 => ?_)
  refine zb_dup X dL_law_11 ?_
  refine zb_init X (rm9 := zrm_X8_init) ziw_L_87 hT ⟨by decide, Nat.le_of_ble_eq_true rfl⟩ ⟨Nat.le_of_ble_eq_true rfl, Nat.le_of_ble_eq_true rfl⟩ (Nat.le_of_ble_eq_true rfl) dL_law_12 (zi_X8 h3) (fun E4 g4 => ?_)
  obtain ⟨g4, o4⟩ := g4
  refine zb_astoreN X (i := 2) (k := 8) rfl (by decide) (fun k9 h9 w9 hw9 => by cases (Nat.succ.inj h9 : k9 = 1); cases hw9; rfl) dL_law_15 ?_
  refine zb_iconst (v := (1 : Int32)) X dL_law_16 (by decide) ?_
  refine zb_newa (k := 17) (N := 1) (w := (1, .inr (.inl (fun _ => 0)))) X zac_long (fun _ => rfl) hT.2.2.1 (by decide) (by decide) (Nat.le_of_ble_eq_true rfl) ⟨Nat.le_of_ble_eq_true rfl, Nat.le_of_ble_eq_true rfl⟩ dL_law_17 (fun E5 h5 o5 => ?_)
  refine zb_astoreN X (i := 3) (k := 17) rfl (by decide) (fun k9 h9 w9 hw9 => by cases (Nat.succ.inj h9 : k9 = 2); cases hw9; rfl) dL_law_19 ?_
  refine zb_iconst (v := nI (6 * 0)) X dL_law_20 (by decide) ?_
  refine zb_istore X (i := 4) (by decide) (fun k9 h9 w9 hw9 => by cases (Nat.succ.inj h9 : k9 = 3); cases hw9; rfl) dL_law_21 ?_
  refine zb_lv (lv2 := [some (vr (sa 35) 53), some (vr x 7), some (vr (x + 501) 8), some (vr (x + 515) 17), some (vi (nI (6 * 0))), none, none, none, none]) rfl ?_
  refine zb_toG (K := zKS x) (I := zIS x) (tA := tA) (sa := sa) (x := x) (fun H hP => zhp_S hP (fun d hd => (o5 _ (by omega)).trans ((o4 _ (by omega)).trans ((o3 _ (by omega)).trans (g2 d hd)))) (fun d hd => (o5 _ (by omega)).trans (g4 d hd)) h5) zinv_S ?_ ?_
  · intro j v hv
    rcases j with _ | _ | _ | _ | _ | _ | _ | _ | _ | j
    · cases hv; exact Or.inr ⟨Nat.le_of_ble_eq_true rfl, Nat.le_of_ble_eq_true rfl, rfl⟩
    · cases hv; exact Or.inl ⟨Nat.le_of_ble_eq_true rfl, zKS_at (x := x) (d := 0) (Nat.le_of_ble_eq_true rfl)⟩
    · cases hv; exact Or.inl ⟨Nat.le_of_ble_eq_true rfl, zKS_at (x := x) (d := 501) (Nat.le_of_ble_eq_true rfl)⟩
    · cases hv; exact Or.inl ⟨Nat.le_of_ble_eq_true rfl, zKS_at (x := x) (d := 515) (Nat.le_of_ble_eq_true rfl)⟩
    · cases hv; trivial
    · cases hv
    · cases hv
    · cases hv
    · cases hv
    · cases hv
  · refine zl_loop (x := x) X kend 520 0 _ _ (zIS x) rfl ⟨fun _ => 0, 0, -1, zBlank, [], zCl_S, zRf_S, zPb_blank.le (Nat.zero_le _), fun u hu => by cases hu⟩ (Nat.le_of_ble_eq_true rfl) (Nat.le_of_ble_eq_true rfl)
end ZENT
