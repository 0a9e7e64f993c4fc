/-! ===== texts of the programs: length, charAt ===== -/
section ZSTR
variable {p : Program} {l : Launch} {e : Env} {R : Room} {s : State} {m : MethodId} {args : Array Value} {below : List Frame} {meth : Method} {c : Code} {cells slots : Nat} {Q : State → Prop}
variable {cc : ByteArray} {pc nL : Nat} {D : va_G} {b0 : Nat} {tA : Nat → ClassId} {sa sv : Nat → Nat} {K : zKt} {own : String} {ret : Option FieldType} {lv : List (Option AV)} {st : List AV} {I : zI}
theorem zK.str {l : Launch} {U : State} (h : zK D b0 tA sa sv l U) : zSc zSN zSL zSB sa (fun i => sa (38 + i)) (fun q => b0 ≤ q) U U.heap := h.2.2.2.2.2.2.2.1
theorem zK.cs {l : Launch} {U : State} (h : zK D b0 tA sa sv l U) : va_Z "java/lang/String" "COMPACT_STRINGS" "Z" (.int 1) (fun q => b0 ≤ q) U U.heap := h.2.2.2.2.2.2.2.2.2.2.1
theorem zK.fm {l : Launch} {U : State} (h : zK D b0 tA sa sv l U) : va_Zq "jdk/internal/util/Preconditions" "SIOOBE_FORMATTER" "Ljava/util/function/BiFunction;" (fun q => b0 ≤ q) U U.heap := h.2.2.2.2.2.2.2.2.2.2.2.1
theorem zok_s {a k : Nat} (h : zok sa K (vr a k)) (hk : 24 ≤ k) : a = sa (k - 24) := by
  rcases h with ⟨h, _⟩ | ⟨_, _, h⟩
  · exact absurd h (Nat.not_lt.mpr hk)
  · exact h
theorem zok_t {k : Nat} (h : 24 ≤ k) (h2 : k < 84) : zok sa K (vr (sa (k - 24)) k) := Or.inr ⟨h, h2, rfl⟩
theorem zok_sv {i : Nat} (hi : i < 22) : zok sa K (vr (sa (38 + i)) (62 + i)) := Or.inr ⟨by show 24 ≤ 62 + i; omega, by show 62 + i < 84; omega, by show sa (38 + i) = sa (62 + i - 24); congr 1; omega⟩
theorem zr_strV (X : zX p l e R s m args below meth c RJ0 cc nL ret D b0 tA sa sv) {i a : Nat} (hi9 : i < 22) (hd : decode cc pc = .ok (.getfield 9, 3)) (k : zG p l e R s m args below meth c nL D b0 tA sa cells slots Q K (pc + 3) lv (vr (sa (38 + i)) (62 + i) :: st) I) : zG p l e R s m args below meth c nL D b0 tA sa cells slots Q K pc lv (vr a (24 + i) :: st) I := by
  intro hi hs hl ls hls H locs hP hS
  have ha := zok_s hs.1 (by show 24 ≤ 24 + i; omega)
  rw [show 24 + i - 24 = i by omega] at ha
  subst ha
  exact vk_getf X.1 X.2.1 (X.2.2.2.2.2.2.1.str i hi9).2.2.1 hS X.2.2.2.1 (X.2.2.2.2.1 _ (zin (List.mem_append_right _ (List.mem_of_getElem? (i := 1386) (by decide +kernel))) rfl)) (fun _ h => h) hd (k hi ⟨zok_sv hi9, hs.2⟩ hl ls hls H locs hP hS)
theorem zr_strC (X : zX p l e R s m args below meth c RJ0 cc nL ret D b0 tA sa sv) {i a : Nat} (hi9 : i < 22) (hd : decode cc pc = .ok (.getfield 15, 3)) (k : zG p l e R s m args below meth c nL D b0 tA sa cells slots Q K (pc + 3) lv (vi 0 :: st) I) : zG p l e R s m args below meth c nL D b0 tA sa cells slots Q K pc lv (vr a (24 + i) :: st) I := by
  intro hi hs hl ls hls H locs hP hS
  have ha := zok_s hs.1 (by show 24 ≤ 24 + i; omega)
  rw [show 24 + i - 24 = i by omega] at ha
  subst ha
  exact vk_getf X.1 X.2.1 (X.2.2.2.2.2.2.1.str i hi9).2.1 hS X.2.2.2.1 (X.2.2.2.2.1 _ (zin (List.mem_append_right _ (List.mem_of_getElem? (i := 1387) (by decide +kernel))) rfl)) (fun _ h => h) hd (k hi ⟨trivial, hs.2⟩ hl ls hls H locs hP hS)
theorem zr_gsC (X : zX p l e R s m args below meth c RJ0 cc nL ret D b0 tA sa sv) (hd : decode cc pc = .ok (.getstatic 38, 3)) (k : zG p l e R s m args below meth c nL D b0 tA sa cells slots Q K (pc + 3) lv (vi 1 :: st) I) : zG p l e R s m args below meth c nL D b0 tA sa cells slots Q K pc lv (st) I := by
  intro hi hs hl ls hls H locs hP hS
  exact va_gets X.1 X.2.1 X.2.2.2.2.2.2.1.cs hS X.2.2.2.1 (X.2.2.2.2.1 _ (zin (List.mem_append_right _ (List.mem_of_getElem? (i := 638) (by decide +kernel))) rfl)) (fun _ h => h) hd (k hi ⟨trivial, hs⟩ hl ls hls H locs hP hS)
theorem zr_lenS (X : zX p l e R s m args below meth c own cc nL ret D b0 tA sa sv) {i a : Nat} (hi9 : i < 22) (hd : decode cc pc = .ok (.arraylength, 1)) (k : zG p l e R s m args below meth c nL D b0 tA sa cells slots Q K (pc + 1) lv (vi (nI (zSL.getD i 0)) :: st) I) : zG p l e R s m args below meth c nL D b0 tA sa cells slots Q K pc lv (vr a (62 + i) :: st) I := by
  intro hi hs hl ls hls H locs hP hS
  have ha := zok_s hs.1 (by show 24 ≤ 62 + i; omega)
  rw [show 62 + i - 24 = 38 + i by omega] at ha
  subst ha
  exact va_tlen X.1 X.2.1 (X.2.2.2.2.2.2.1.str i hi9).2.2.2 hS rfl hd (k hi ⟨trivial, hs.2⟩ hl ls hls H locs hP hS)
theorem zr_baldS (X : zX p l e R s m args below meth c own cc nL ret D b0 tA sa sv) {i a k : Nat} (hi9 : i < 22) (hk : k < zSL.getD i 0) (hk2 : k < 2 ^ 30) (hd : decode cc pc = .ok (.baload, 1)) (kk : zG p l e R s m args below meth c nL D b0 tA sa cells slots Q K (pc + 1) lv (vi ((zSB.getD i []).getD k 0) :: st) I) : zG p l e R s m args below meth c nL D b0 tA sa cells slots Q K pc lv (vi (nI k) :: vr a (62 + i) :: st) I := by
  intro hi hs hl ls hls H locs hP hS
  have ha := zok_s hs.2.1 (by show 24 ≤ 62 + i; omega)
  rw [show 62 + i - 24 = 38 + i by omega] at ha
  subst ha
  have hl9 : ∀ i, i < 22 → zSL.getD i 0 < 2 ^ 31 := by decide
  exact va_tb X.1 X.2.1 (X.2.2.2.2.2.2.1.str i hi9).2.2.2 hS (vp_in_nI hk (hl9 i hi9)) (by rw [nI_clamp (by omega)]; rfl) hd (kk hi ⟨trivial, hs.2.2⟩ hl ls hls H locs hP hS)
theorem zr_i2c (X : zX p l e R s m args below meth c own cc nL ret D b0 tA sa sv) {x : Int32} (hd : decode cc pc = .ok (.i2c, 1)) (k : zG p l e R s m args below meth c nL D b0 tA sa cells slots Q K (pc + 1) lv (vi ((x.toUInt32 % 65536).toInt32) :: st) I) : zG p l e R s m args below meth c nL D b0 tA sa cells slots Q K pc lv (vi x :: st) I := by
  intro hi hs hl ls hls H locs hP hS
  exact lv_i2c X.1 X.2.1 hd rfl (k hi ⟨trivial, hs.2⟩ hl ls hls H locs hP hS)
theorem zr_popI2 (X : zX p l e R s m args below meth c own cc nL ret D b0 tA sa sv) {x : Int32} (hd : decode cc pc = .ok (.pop, 1)) (k : zG p l e R s m args below meth c nL D b0 tA sa cells slots Q K (pc + 1) lv (st) I) : zG p l e R s m args below meth c nL D b0 tA sa cells slots Q K pc lv (vi x :: st) I := by
  intro hi hs hl ls hls H locs hP hS
  exact lv_pop X.1 X.2.1 hd rfl (k hi hs.2 hl ls hls H locs hP hS)
variable {rm : Room} {Qp : zI → Option AV → Prop} {Xp : String → zI → Prop}
theorem zr_nret {ty : FieldType} (X : zX p l e R s m args below meth c own cc nL (some ty) D b0 tA sa sv) {x : Int32} (hx : narrow ty (.int x) = .int x) (hc : cells ≤ rm.cells) (hs9 : slots ≤ rm.slots) (hd : decode cc pc = .ok (.ireturn, 1)) (h : Qp I (some (vi x))) :
    zG p l e R s m args below meth c nL D b0 tA sa cells slots (zQ below D b0 tA sa K args s rm Qp Xp) K pc lv [vi x] I := by
  intro hi hs hl ls hls H locs hP hS
  exact W.widen hc hs9 (vx_ret (W.zret X.1 X.2.1 X.2.2.2.2.2.2.2 hx (fun t ht hW => ⟨⟨I, some (vi x), rfl, h, fun v hv => by cases hv; trivial, hi, by rw [ht]; exact hP⟩, hS.F ht⟩) hS.2.2 hd X.2.2.2.2.2.1))
/-- an instance method of String -/
def zMw (own : String) (index : Nat) (y : MethodName) (bytes : ByteArray) (maxL : Nat) (r9 : Option FieldType) (n : Nat) : Prop := (y.cls = RJ0 ∧ y.cls ≠ "java/lang/invoke/MethodHandle" ∧ y.cls ≠ "java/lang/invoke/VarHandle" ∧ (parseMethodDescriptor y.desc).map (fun d => d.parameters.length) = some n) ∧ Cond.methodLink own index y ∈ zALL ∧ Cond.instanceMethod y ∈ zALL ∧ Cond.selects RJ0 y y ∈ zALL ∧ Cond.initialized RJ0 ∈ zALL ∧ Cond.code y bytes maxL r9 ∈ zALL
theorem zr_callW (X : zX p l e R s m args below meth c own cc nL ret D b0 tA sa sv) (hnt : ∀ x ∈ c.exceptionTable.toList, False) {index i maxL n a : Nat} {y : MethodName} {bytes : ByteArray} {r9 : Option FieldType} {rm9 : Room} {As : List AV} {st9 : List AV} (hi9 : i < 22) (F : zMw own index y bytes maxL r9 n)
    (hst : st9 = As.reverse ++ vr a (24 + i) :: st) (hn : As.length = n) (hR : rm9.frames + 1 ≤ R.frames ∧ 8 + (maxL + 11) + rm9.locals ≤ R.locals) (hf : cells + rm9.cells ≤ R.cells ∧ slots + rm9.slots ≤ R.slots) (hf2 : cells + rm9.cells ≤ rm.cells ∧ slots + rm9.slots ≤ rm.slots) (hw : ((st.map zv).map fun v => v.category).sum ≤ 8) (hd : decode cc pc = .ok (.invokevirtual index, 3))
    (hM : zC l D b0 tA sa sv K y (.code y bytes maxL r9) rm9 (vr a (24 + i) :: As) I (fun I' r => zG p l e R s m args below meth c nL D b0 tA sa (cells + rm9.cells) (slots + rm9.slots) (zQ below D b0 tA sa K args s rm Qp Xp) K (pc + 3) lv (zpush r st) I') Xp) :
    zG p l e R s m args below meth c nL D b0 tA sa cells slots (zQ below D b0 tA sa K args s rm Qp Xp) K pc lv st9 I := by
  subst hst
  intro hi hs hl ls hls H locs hP hS
  obtain ⟨f3, f4, f5, f6, f7, f8⟩ := F
  have hs2 := zoks_app hs
  have ha := zok_s hs2.2.1 (by show 24 ≤ 24 + i; omega)
  rw [show 24 + i - 24 = i by omega] at ha
  have hav : zoks sa K (vr a (24 + i) :: As) := ⟨hs2.2.1, zoks_of (fun v hv => zoks_rev hs2.1 v (List.mem_reverse.mpr hv))⟩
  have hrecv : ∃ cell : Cell, H[a]? = some cell ∧ cell.vm.isStatics = false ∧ s.vm.findClass RJ0 = some cell.cls := by
    subst ha
    obtain ⟨cell, h1, h2, h3, -⟩ := (X.2.2.2.2.2.2.1.str i hi9).1.kept hS.2.1
    exact ⟨cell, h1, h2, h3⟩
  have hnL : ls.size = nL := by obtain ⟨l9, h9, -⟩ := hls; exact h9.1
  refine zr_back X (st := st) (lv := lv) hnt (vx_runV (As := As.map zv) (b := a) (C := RJ0) (Ts := zALL) (cc := cc) (nL := nL) (own := own) ⟨X.1, X.2.1, X.2.2.1, X.2.2.2.1, X.2.2.2.2.1⟩ hM (cwV n X.2.2.2.2.1 (zgoodV f4 f5 f6 f7 (zgood f8)) rfl rfl rfl f3 hR) ⟨zblind, hrecv, fun U hU hW => zpre X hi hav hP hS U hU hW⟩ rfl (by rw [List.length_map]; exact hn) hnL ?_ (lv_room hw) hd hf) hS hf2.1 hf2.2 hl hls hs2.2.2 (fun I' r h => h)
  show ((As.reverse ++ vr a (24 + i) :: st).map zv) = (As.map zv).reverse ++ .ref a :: st.map zv
  rw [List.map_append, List.map_reverse]
  rfl
theorem zr_callW0 (X : zX p l e R s m args below meth c own cc nL ret D b0 tA sa sv) (hnt : ∀ x ∈ c.exceptionTable.toList, False) {index i maxL a : Nat} {y : MethodName} {bytes : ByteArray} {r9 : Option FieldType} {rm9 : Room}  (hi9 : i < 22) (F : zMw own index y bytes maxL r9 0)
    (hR : rm9.frames + 1 ≤ R.frames ∧ 8 + (maxL + 11) + rm9.locals ≤ R.locals) (hf : cells + rm9.cells ≤ R.cells ∧ slots + rm9.slots ≤ R.slots) (hf2 : cells + rm9.cells ≤ rm.cells ∧ slots + rm9.slots ≤ rm.slots) (hw : ((st.map zv).map fun v => v.category).sum ≤ 8) (hd : decode cc pc = .ok (.invokevirtual index, 3))
    (hM : zC l D b0 tA sa sv K y (.code y bytes maxL r9) rm9 [vr a (24 + i)] I (fun I' r => zG p l e R s m args below meth c nL D b0 tA sa (cells + rm9.cells) (slots + rm9.slots) (zQ below D b0 tA sa K args s rm Qp Xp) K (pc + 3) lv (zpush r st) I') Xp) :
    zG p l e R s m args below meth c nL D b0 tA sa cells slots (zQ below D b0 tA sa K args s rm Qp Xp) K pc lv (vr a (24 + i) :: st) I := zr_callW X hnt (As := []) hi9 F rfl rfl hR hf hf2 hw hd hM
theorem zr_callW1 (X : zX p l e R s m args below meth c own cc nL ret D b0 tA sa sv) (hnt : ∀ x ∈ c.exceptionTable.toList, False) {index i maxL a : Nat} {y : MethodName} {bytes : ByteArray} {r9 : Option FieldType} {rm9 : Room} {x1 : AV} (hi9 : i < 22) (F : zMw own index y bytes maxL r9 1)
    (hR : rm9.frames + 1 ≤ R.frames ∧ 8 + (maxL + 11) + rm9.locals ≤ R.locals) (hf : cells + rm9.cells ≤ R.cells ∧ slots + rm9.slots ≤ R.slots) (hf2 : cells + rm9.cells ≤ rm.cells ∧ slots + rm9.slots ≤ rm.slots) (hw : ((st.map zv).map fun v => v.category).sum ≤ 8) (hd : decode cc pc = .ok (.invokevirtual index, 3))
    (hM : zC l D b0 tA sa sv K y (.code y bytes maxL r9) rm9 [vr a (24 + i), x1] I (fun I' r => zG p l e R s m args below meth c nL D b0 tA sa (cells + rm9.cells) (slots + rm9.slots) (zQ below D b0 tA sa K args s rm Qp Xp) K (pc + 3) lv (zpush r st) I') Xp) :
    zG p l e R s m args below meth c nL D b0 tA sa cells slots (zQ below D b0 tA sa K args s rm Qp Xp) K pc lv (x1 :: vr a (24 + i) :: st) I := zr_callW X hnt (As := [x1]) hi9 F rfl rfl hR hf hf2 hw hd hM
theorem zr_callX2 (X : zX p l e R s m args below meth c own cc nL ret D b0 tA sa sv) (hnt : ∀ x ∈ c.exceptionTable.toList, False) {index maxL : Nat} {y : MethodName} {bytes : ByteArray} {r9 : Option FieldType} {rm9 : Room} {x1 x2 : AV} (F : zMx own index y bytes maxL r9 2)
    (hR : rm9.frames + 1 ≤ R.frames ∧ 8 + (maxL + 11) + rm9.locals ≤ R.locals) (hf : cells + rm9.cells ≤ R.cells ∧ slots + rm9.slots ≤ R.slots) (hf2 : cells + rm9.cells ≤ rm.cells ∧ slots + rm9.slots ≤ rm.slots) (hw : ((st.map zv).map fun v => v.category).sum ≤ 8) (hd : decode cc pc = .ok (.invokestatic index, 3))
    (hM : zC l D b0 tA sa sv K y (.code y bytes maxL r9) rm9 [x1, x2] I (fun I' r => zG p l e R s m args below meth c nL D b0 tA sa (cells + rm9.cells) (slots + rm9.slots) (zQ below D b0 tA sa K args s rm Qp Xp) K (pc + 3) lv (zpush r st) I') Xp) :
    zG p l e R s m args below meth c nL D b0 tA sa cells slots (zQ below D b0 tA sa K args s rm Qp Xp) K pc lv (x2 :: x1 :: st) I := zr_callX X hnt (As := [x1, x2]) F rfl rfl hR hf hf2 hw hd hM
theorem zr_callX3 (X : zX p l e R s m args below meth c own cc nL ret D b0 tA sa sv) (hnt : ∀ x ∈ c.exceptionTable.toList, False) {index maxL : Nat} {y : MethodName} {bytes : ByteArray} {r9 : Option FieldType} {rm9 : Room} {x1 x2 x3 : AV} (F : zMx own index y bytes maxL r9 3)
    (hR : rm9.frames + 1 ≤ R.frames ∧ 8 + (maxL + 11) + rm9.locals ≤ R.locals) (hf : cells + rm9.cells ≤ R.cells ∧ slots + rm9.slots ≤ R.slots) (hf2 : cells + rm9.cells ≤ rm.cells ∧ slots + rm9.slots ≤ rm.slots) (hw : ((st.map zv).map fun v => v.category).sum ≤ 8) (hd : decode cc pc = .ok (.invokestatic index, 3))
    (hM : zC l D b0 tA sa sv K y (.code y bytes maxL r9) rm9 [x1, x2, x3] I (fun I' r => zG p l e R s m args below meth c nL D b0 tA sa (cells + rm9.cells) (slots + rm9.slots) (zQ below D b0 tA sa K args s rm Qp Xp) K (pc + 3) lv (zpush r st) I') Xp) :
    zG p l e R s m args below meth c nL D b0 tA sa cells slots (zQ below D b0 tA sa K args s rm Qp Xp) K pc lv (x3 :: x2 :: x1 :: st) I := zr_callX X hnt (As := [x1, x2, x3]) F rfl rfl hR hf hf2 hw hd hM
end ZSTR
theorem zm_J0_335 : zMw RJ0 335 yJ0_coder_7d493 cJ0_coder_7d493 1 (some .byte) 0 := ⟨by decide +kernel, zin (List.mem_append_right _ (List.mem_of_getElem? (i := 634) (by decide +kernel))) rfl, zin (List.mem_append_right _ (List.mem_of_getElem? (i := 635) (by decide +kernel))) rfl, zin (List.mem_append_right _ (List.mem_of_getElem? (i := 636) (by decide +kernel))) rfl, zin (List.mem_append_right _ (List.mem_of_getElem? (i := 20) (by decide +kernel))) rfl, zin (List.mem_append_right _ (List.mem_of_getElem? (i := 637) (by decide +kernel))) rfl⟩
theorem zm_J0_492 : zMw RJ0 492 yJ0_isLatin1_aae02 cJ0_isLatin1_aae02 1 (some .boolean) 0 := ⟨by decide +kernel, zin (List.mem_append_right _ (List.mem_of_getElem? (i := 644) (by decide +kernel))) rfl, zin (List.mem_append_right _ (List.mem_of_getElem? (i := 645) (by decide +kernel))) rfl, zin (List.mem_append_right _ (List.mem_of_getElem? (i := 646) (by decide +kernel))) rfl, zin (List.mem_append_right _ (List.mem_of_getElem? (i := 20) (by decide +kernel))) rfl, zin (List.mem_append_right _ (List.mem_of_getElem? (i := 647) (by decide +kernel))) rfl⟩
theorem zm_J0_495 : zMx RJ0 495 yJ1_charAt_3b067 cJ1_charAt_3b067 2 (some .char) 2 := ⟨by decide +kernel, zin (List.mem_append_right _ (List.mem_of_getElem? (i := 648) (by decide +kernel))) rfl, zin (List.mem_append_right _ (List.mem_of_getElem? (i := 649) (by decide +kernel))) rfl, zin (List.mem_append_right _ (List.mem_of_getElem? (i := 21) (by decide +kernel))) rfl, zin (List.mem_append_right _ (List.mem_of_getElem? (i := 650) (by decide +kernel))) rfl⟩
theorem zm_J1_9 : zMx RJ1 9 yJ0_checkIndex_df160 cJ0_checkIndex_df160 2 none 2 := ⟨by decide +kernel, zin (List.mem_append_right _ (List.mem_of_getElem? (i := 651) (by decide +kernel))) rfl, zin (List.mem_append_right _ (List.mem_of_getElem? (i := 652) (by decide +kernel))) rfl, zin (List.mem_append_right _ (List.mem_of_getElem? (i := 20) (by decide +kernel))) rfl, zin (List.mem_append_right _ (List.mem_of_getElem? (i := 653) (by decide +kernel))) rfl⟩
theorem zm_J0_1059 : zMx RJ0 1059 yJ3_checkIndex_8e157 cJ3_checkIndex_8e157 3 (some .int) 3 := ⟨by decide +kernel, zin (List.mem_append_right _ (List.mem_of_getElem? (i := 656) (by decide +kernel))) rfl, zin (List.mem_append_right _ (List.mem_of_getElem? (i := 657) (by decide +kernel))) rfl, zin (List.mem_append_right _ (List.mem_of_getElem? (i := 22) (by decide +kernel))) rfl, zin (List.mem_append_right _ (List.mem_of_getElem? (i := 658) (by decide +kernel))) rfl⟩
theorem zm_X3_69 : zMw RX3 69 yJ0_length_8abf5 cJ0_length_8abf5 1 (some .int) 0 := ⟨by decide +kernel, zin (List.mem_append_right _ (List.mem_of_getElem? (i := 630) (by decide +kernel))) rfl, zin (List.mem_append_right _ (List.mem_of_getElem? (i := 631) (by decide +kernel))) rfl, zin (List.mem_append_right _ (List.mem_of_getElem? (i := 632) (by decide +kernel))) rfl, zin (List.mem_append_right _ (List.mem_of_getElem? (i := 20) (by decide +kernel))) rfl, zin (List.mem_append_right _ (List.mem_of_getElem? (i := 633) (by decide +kernel))) rfl⟩
theorem zm_L_23 : zMw RL 23 yJ0_length_8abf5 cJ0_length_8abf5 1 (some .int) 0 := ⟨by decide +kernel, zin (List.mem_append_right _ (List.mem_of_getElem? (i := 1146) (by decide +kernel))) rfl, zin (List.mem_append_right _ (List.mem_of_getElem? (i := 631) (by decide +kernel))) rfl, zin (List.mem_append_right _ (List.mem_of_getElem? (i := 632) (by decide +kernel))) rfl, zin (List.mem_append_right _ (List.mem_of_getElem? (i := 20) (by decide +kernel))) rfl, zin (List.mem_append_right _ (List.mem_of_getElem? (i := 633) (by decide +kernel))) rfl⟩
theorem zm_X3_75 : zMw RX3 75 yJ0_charAt_5068e cJ0_charAt_5068e 2 (some .char) 1 := ⟨by decide +kernel, zin (List.mem_append_right _ (List.mem_of_getElem? (i := 640) (by decide +kernel))) rfl, zin (List.mem_append_right _ (List.mem_of_getElem? (i := 641) (by decide +kernel))) rfl, zin (List.mem_append_right _ (List.mem_of_getElem? (i := 642) (by decide +kernel))) rfl, zin (List.mem_append_right _ (List.mem_of_getElem? (i := 20) (by decide +kernel))) rfl, zin (List.mem_append_right _ (List.mem_of_getElem? (i := 643) (by decide +kernel))) rfl⟩
theorem zm_L_29 : zMw RL 29 yJ0_charAt_5068e cJ0_charAt_5068e 2 (some .char) 1 := ⟨by decide +kernel, zin (List.mem_append_right _ (List.mem_of_getElem? (i := 1147) (by decide +kernel))) rfl, zin (List.mem_append_right _ (List.mem_of_getElem? (i := 641) (by decide +kernel))) rfl, zin (List.mem_append_right _ (List.mem_of_getElem? (i := 642) (by decide +kernel))) rfl, zin (List.mem_append_right _ (List.mem_of_getElem? (i := 20) (by decide +kernel))) rfl, zin (List.mem_append_right _ (List.mem_of_getElem? (i := 643) (by decide +kernel))) rfl⟩
abbrev zrm_J0_coder_7d493 : Room := { frames := 0, cells := 0, slots := 0, locals := 0 }
abbrev zrm_J0_isLatin1_aae02 : Room := { frames := 0, cells := 0, slots := 0, locals := 0 }
abbrev zrm_J3_checkIndex_8e157 : Room := { frames := 0, cells := 0, slots := 0, locals := 0 }
abbrev zrm_J0_checkIndex_df160 : Room := { frames := 1, cells := 0, slots := 0, locals := 22 }
abbrev zrm_J1_charAt_3b067 : Room := { frames := 2, cells := 0, slots := 0, locals := 43 }
abbrev zrm_J0_charAt_5068e : Room := { frames := 3, cells := 0, slots := 0, locals := 64 }
abbrev zrm_J0_length_8abf5 : Room := { frames := 1, cells := 0, slots := 0, locals := 20 }
set_option maxRecDepth 20000 in
theorem zp_J0_coder_7d493 {l : Launch} {D : va_G} {b0 : Nat} {tA : Nat → ClassId} {sa sv : Nat → Nat} {K : zKt} {I : zI} {Qp : zI → Option AV → Prop} {Xp : String → zI → Prop} {i : Nat}
    (hi20 : i < 22) (k1 : Qp I (some (vi 0))) :
    zC l D b0 tA sa sv K yJ0_coder_7d493 (.code yJ0_coder_7d493 cJ0_coder_7d493 1 (some .byte)) zrm_J0_coder_7d493 [vr (sa i) (24 + i)] I Qp Xp := by
  refine zC_of (by decide +kernel) (Nat.le_of_ble_eq_true rfl) ?_
  intro p e s m args below meth c X hnt
  have X : zX p l e zrm_J0_coder_7d493 s m args below meth c RJ0 cJ0_coder_7d493 1 (some .byte) D b0 tA sa sv := X
  refine zr_lv (lv2 := [some (vr (sa i) (24 + i))]) rfl ?_
  refine zr_gsC X dJ0_coder_7d493_0 ?_
  refine zr_if_eq (tgt := 13) X dJ0_coder_7d493_3 (by decide) (fun h => absurd h (by decide)) (fun _ => ?_)
  refine zr_aload0 X dJ0_coder_7d493_6 ?_
  refine zr_strC (i := i) X (by omega) dJ0_coder_7d493_7 ?_
  refine zr_goto (tgt := 14) X dJ0_coder_7d493_10 (by decide) ?_
  refine zr_nret X (by first | rfl | decide) (by decide) (by decide) dJ0_coder_7d493_14 ?_
  exact k1
set_option maxRecDepth 20000 in
theorem zp_J0_isLatin1_aae02 {l : Launch} {D : va_G} {b0 : Nat} {tA : Nat → ClassId} {sa sv : Nat → Nat} {K : zKt} {I : zI} {Qp : zI → Option AV → Prop} {Xp : String → zI → Prop} {i : Nat}
    (hi20 : i < 22) (k1 : Qp I (some (vi 1))) :
    zC l D b0 tA sa sv K yJ0_isLatin1_aae02 (.code yJ0_isLatin1_aae02 cJ0_isLatin1_aae02 1 (some .boolean)) zrm_J0_isLatin1_aae02 [vr (sa i) (24 + i)] I Qp Xp := by
  refine zC_of (by decide +kernel) (Nat.le_of_ble_eq_true rfl) ?_
  intro p e s m args below meth c X hnt
  have X : zX p l e zrm_J0_isLatin1_aae02 s m args below meth c RJ0 cJ0_isLatin1_aae02 1 (some .boolean) D b0 tA sa sv := X
  refine zr_lv (lv2 := [some (vr (sa i) (24 + i))]) rfl ?_
  refine zr_gsC X dJ0_isLatin1_aae02_0 ?_
  refine zr_if_eq (tgt := 17) X dJ0_isLatin1_aae02_3 (by decide) (fun h => absurd h (by decide)) (fun _ => ?_)
  refine zr_aload0 X dJ0_isLatin1_aae02_6 ?_
  refine zr_strC (i := i) X (by omega) dJ0_isLatin1_aae02_7 ?_
  refine zr_if_ne (tgt := 17) X dJ0_isLatin1_aae02_10 (by decide) (fun h => absurd h (by decide)) (fun _ => ?_)
  refine zr_iconst (v := (1 : Int32)) X dJ0_isLatin1_aae02_13 (by decide) ?_
  refine zr_goto (tgt := 18) X dJ0_isLatin1_aae02_14 (by decide) ?_
  refine zr_zret X (by first | decide | assumption | (simp; done)) (by decide) (by decide) dJ0_isLatin1_aae02_18 ?_
  exact k1
theorem zshr0 {n : Nat} (h : n < 2 ^ 30) : nI n >>> ((0 : Int32) &&& 31) = nI n := by
  rw [show ((0 : Int32) &&& 31) = 0 from by decide]
  apply Int32.toInt_inj.mp
  simp
set_option maxRecDepth 20000 in
theorem zp_J0_length_8abf5 {l : Launch} {D : va_G} {b0 : Nat} {tA : Nat → ClassId} {sa sv : Nat → Nat} {K : zKt} {I : zI} {Qp : zI → Option AV → Prop} {Xp : String → zI → Prop} {i : Nat}
    (hi20 : i < 22) (k1 : Qp I (some (vi (nI (zSL.getD i 0))))) :
    zC l D b0 tA sa sv K yJ0_length_8abf5 (.code yJ0_length_8abf5 cJ0_length_8abf5 1 (some .int)) zrm_J0_length_8abf5 [vr (sa i) (24 + i)] I Qp Xp := by
  have hl9 : ∀ i, i < 22 → zSL.getD i 0 < 2 ^ 30 := by decide
  refine zC_of (by decide +kernel) (Nat.le_of_ble_eq_true rfl) ?_
  intro p e s m args below meth c X hnt
  have X : zX p l e zrm_J0_length_8abf5 s m args below meth c RJ0 cJ0_length_8abf5 1 (some .int) D b0 tA sa sv := X
  refine zr_lv (lv2 := [some (vr (sa i) (24 + i))]) rfl ?_
  refine zr_aload0 X dJ0_length_8abf5_0 ?_
  refine zr_strV (i := i) X (by omega) dJ0_length_8abf5_1 ?_
  refine zr_lenS (i := i) X (by omega) dJ0_length_8abf5_4 ?_
  refine zr_aload0 X dJ0_length_8abf5_5 ?_
  refine zr_callW0 (rm9 := zrm_J0_coder_7d493) X hnt (by omega) zm_J0_335 (by decide) (by decide) (by decide) (Nat.le_of_ble_eq_true rfl) dJ0_length_8abf5_6 ?_
  refine zp_J0_coder_7d493 (by omega) ?_
  refine zr_ishr X dJ0_length_8abf5_9 ?_
  refine zr_eq (x2 := (nI (zSL.getD i 0))) (zshr0 (hl9 i hi20)) ?_
  refine zr_iret X (by decide) (by decide) dJ0_length_8abf5_10 ?_
  exact k1
set_option maxRecDepth 20000 in
theorem zs_J3_ck {l : Launch} {D : va_G} {b0 : Nat} {tA : Nat → ClassId} {sa sv : Nat → Nat} {K : zKt} {I : zI} {Qp : zI → Option AV → Prop} {Xp : String → zI → Prop} {k9 n9 : Nat} {p : Program} {e : Env} {s : State} {m : MethodId} {args : Array Value} {below : List Frame} {meth : Method} {c : Code}
    (X : zX p l e zrm_J3_checkIndex_8e157 s m args below meth c RJ3 cJ3_checkIndex_8e157 3 (some .int) D b0 tA sa sv) (hk : k9 < n9) (hn : n9 < 2 ^ 31) (k1 : Qp I (some (vi (nI k9)))) :
    zG p l e zrm_J3_checkIndex_8e157 s m args below meth c 3 D b0 tA sa 0 0 (zQ below D b0 tA sa K args s zrm_J3_checkIndex_8e157 Qp Xp) K 0 [some (vi ((nI k9))), some (vi ((nI n9))), none] [] I := by
  refine zr_iload0 X dJ3_checkIndex_8e157_0 ?_
  refine zr_nif_lt X (k9) (tgt := 9) (by omega) dJ3_checkIndex_8e157_1 (by decide) (fun h => h.elim) (fun _ => ?_)
  refine zr_iload0 X dJ3_checkIndex_8e157_4 ?_
  refine zr_iload1 X dJ3_checkIndex_8e157_5 ?_
  refine zr_nicmp_lt X (k9) (n9) (tgt := 16) (by omega) (by omega) dJ3_checkIndex_8e157_6 (by decide) (fun h2 => ?_) (fun h2 => ?_)
  · refine zr_iload0 X dJ3_checkIndex_8e157_16 ?_
    refine zr_iret X (by decide) (by decide) dJ3_checkIndex_8e157_17 ?_
    exact k1
  · exact absurd h2 (by omega)
theorem zp_J3_raw {l : Launch} {D : va_G} {b0 : Nat} {tA : Nat → ClassId} {sa sv : Nat → Nat} {K : zKt} {I : zI} {Qp : zI → Option AV → Prop} {Xp : String → zI → Prop} {k9 n9 : Nat} {v : Value}
    (hv2 : v = .null ∨ ∃ t : Nat, v = .ref t) (hk : k9 < n9) (hn : n9 < 2 ^ 31) (k1 : Qp I (some (vi (nI k9)))) :
    vx_Met l yJ3_checkIndex_8e157 (.code yJ3_checkIndex_8e157 cJ3_checkIndex_8e157 3 (some .int) :: zALL) zrm_J3_checkIndex_8e157 (fun a U => a = ([.int (nI k9), .int (nI n9), v] : List Value).toArray ∧ zinv K I ∧ zhp D b0 (zEof tA K I) U.heap ∧ zK D b0 tA sa sv l U) (zQc D b0 tA sa K Qp) (zXc D b0 tA K Xp) zrm_J3_checkIndex_8e157.cells zrm_J3_checkIndex_8e157.slots (fun q => b0 ≤ q) := by
  refine vx_ofW (cc := cJ3_checkIndex_8e157) (maxL := 3) (ret := some .int) (by decide +kernel) rfl ?_
  intro p e s m args below meth c s₁ B hml hnt hv
  obtain ⟨hargs, hinv, hP, hK⟩ := hv
  have hts : ∀ w ∈ Cond.code yJ3_checkIndex_8e157 cJ3_checkIndex_8e157 3 (some .int) :: zALL, w.before args s = true := atoms_spec B.pre
  have X : zX p l e zrm_J3_checkIndex_8e157 s m args below meth c RJ3 cJ3_checkIndex_8e157 3 (some .int) D b0 tA sa sv := ⟨B.exec, B.bytes, hml, findClass_of_methodNamed B.named, fun w h => hts w (List.mem_cons_of_mem _ h), B.notSynchronized, hK, B.returns⟩
  have hl := lv_entry ([.int (nI k9), .int (nI n9), v] : List Value) (n := 3) (by rcases hv2 with rfl | ⟨t, rfl⟩ <;> exact Nat.le_of_ble_eq_true rfl)
  subst hargs
  rw [lg_entry_eq]
  refine zs_J3_ck X hk hn k1 hinv trivial (fun j w hw => ?_) _ ⟨_, hl, fun j w hw => ?_⟩ s.heap [] hP va_S.rf
  · rcases j with _ | _ | _ | j
    · cases hw; trivial
    · cases hw; trivial
    · cases hw
    · cases hw
  · rcases j with _ | _ | _ | j
    · cases hw; exact List.mem_cons_self
    · cases hw; exact List.mem_cons_of_mem _ List.mem_cons_self
    · cases hw
    · cases hw
theorem zr_ckF {p : Program} {l : Launch} {e : Env} {R : Room} {s : State} {m : MethodId} {args : Array Value} {below : List Frame} {meth : Method} {c : Code} {cells slots : Nat} {cc : ByteArray} {pc nL : Nat} {D : va_G} {b0 : Nat} {tA : Nat → ClassId} {sa sv : Nat → Nat} {K : zKt} {ret : Option FieldType} {lv : List (Option AV)} {st : List AV} {I : zI} {rm : Room} {Qp : zI → Option AV → Prop} {Xp : String → zI → Prop} {k9 n9 : Nat}
    (X : zX p l e R s m args below meth c RJ0 cc nL ret D b0 tA sa sv) (hnt : ∀ x ∈ c.exceptionTable.toList, False) (hk : k9 < n9) (hn : n9 < 2 ^ 31) (hR : zrm_J3_checkIndex_8e157.frames + 1 ≤ R.frames ∧ 8 + (3 + 11) + zrm_J3_checkIndex_8e157.locals ≤ R.locals) (hf : cells + zrm_J3_checkIndex_8e157.cells ≤ R.cells ∧ slots + zrm_J3_checkIndex_8e157.slots ≤ R.slots) (hf2 : cells + zrm_J3_checkIndex_8e157.cells ≤ rm.cells ∧ slots + zrm_J3_checkIndex_8e157.slots ≤ rm.slots) (hw : ((st.map zv).map fun v => v.category).sum ≤ 8)
    (hd : decode cc pc = .ok (.getstatic 1053, 3)) (hd2 : decode cc (pc + 3) = .ok (.invokestatic 1059, 3))
    (k : zG p l e R s m args below meth c nL D b0 tA sa (cells + zrm_J3_checkIndex_8e157.cells) (slots + zrm_J3_checkIndex_8e157.slots) (zQ below D b0 tA sa K args s rm Qp Xp) K (pc + 3 + 3) lv (vi (nI k9) :: st) I) :
    zG p l e R s m args below meth c nL D b0 tA sa cells slots (zQ below D b0 tA sa K args s rm Qp Xp) K pc lv (vi (nI n9) :: vi (nI k9) :: st) I := by
  intro hi hs hl ls hls H locs hP hS
  obtain ⟨f3, f4, f5, f7, f8⟩ := zm_J0_1059
  have hnL : ls.size = nL := by obtain ⟨l9, h9, -⟩ := hls; exact h9.1
  obtain ⟨v, hv2, hz⟩ : ∃ v : Value, (v = .null ∨ ∃ t : Nat, v = .ref t) ∧ va_Z "jdk/internal/util/Preconditions" "SIOOBE_FORMATTER" "Ljava/util/function/BiFunction;" v (fun q => b0 ≤ q) s s.heap := by
    rcases X.2.2.2.2.2.2.1.fm with h | ⟨t, h⟩
    · exact ⟨.null, Or.inl rfl, h⟩
    · exact ⟨.ref t, Or.inr ⟨t, rfl⟩, h⟩
  refine va_gets X.1 X.2.1 hz hS X.2.2.2.1 (X.2.2.2.2.1 _ (zin (List.mem_append_right _ (List.mem_of_getElem? (i := 654) (by decide +kernel))) rfl)) (fun _ h => h) hd ?_
  have hM := zp_J3_raw (l := l) (D := D) (b0 := b0) (tA := tA) (sa := sa) (sv := sv) (K := K) (I := I) (Qp := fun I' r => I' = I ∧ r = some (vi (nI k9))) (Xp := Xp) (v := v) hv2 hk hn ⟨rfl, rfl⟩
  have hb : FrameBlind (fun (a : Array Value) (U : State) => a = ([.int (nI k9), .int (nI n9), v] : List Value).toArray ∧ zinv K I ∧ zhp D b0 (zEof tA K I) U.heap ∧ zK D b0 tA sa sv l U) := by
    intro a U g mk q
    obtain ⟨q1, q2, q4, q5⟩ := q
    exact ⟨q1, q2, q4, zK.moved (u := U) (U := U.calling g mk a) (locs := []) q5 (Vm.Alike.refl U.vm) (State.WarmedH.refl U) ⟨Nat.le_refl _, fun _ _ _ => rfl, fun _ h => by cases h⟩⟩
  have hp : PreS s H (fun (a : Array Value) (U : State) => a = ([.int (nI k9), .int (nI n9), v] : List Value).toArray ∧ zinv K I ∧ zhp D b0 (zEof tA K I) U.heap ∧ zK D b0 tA sa sv l U) ([.int (nI k9), .int (nI n9), v] : List Value) := ⟨hb, fun U hU hW => ⟨rfl, hi, by rw [hU]; exact hP, zK.moved X.2.2.2.2.2.2.1 hW.alike hW (by rw [hU]; exact hS)⟩⟩
  exact zr_back X (st := st) (lv := lv) hnt (vx_runS (As := [.int (nI k9), .int (nI n9), v]) (Ts := zALL) (cc := cc) (nL := nL) (own := RJ0) ⟨X.1, X.2.1, X.2.2.1, X.2.2.2.1, X.2.2.2.2.1⟩ hM (va_cwS 3 X.2.2.2.2.1 (zgoodX f4 f5 f7 (zgood f8)) rfl rfl rfl f3 hR) hp rfl rfl hnL rfl (lv_room hw) hd2 hf) hS hf2.1 hf2.2 hl hls hs.2.2 (fun I' r h => by obtain ⟨rfl, rfl⟩ := h; exact k)
set_option maxRecDepth 20000 in
theorem zp_J0_checkIndex_df160 {l : Launch} {D : va_G} {b0 : Nat} {tA : Nat → ClassId} {sa sv : Nat → Nat} {K : zKt} {I : zI} {Qp : zI → Option AV → Prop} {Xp : String → zI → Prop} {k9 n9 : Nat}
    (hk : k9 < n9) (hn : n9 < 2 ^ 31) (k1 : Qp I none) :
    zC l D b0 tA sa sv K yJ0_checkIndex_df160 (.code yJ0_checkIndex_df160 cJ0_checkIndex_df160 2 none) zrm_J0_checkIndex_df160 [vi ((nI k9)), vi ((nI n9))] I Qp Xp := by
  refine zC_of (by decide +kernel) (Nat.le_of_ble_eq_true rfl) ?_
  intro p e s m args below meth c X hnt
  have X : zX p l e zrm_J0_checkIndex_df160 s m args below meth c RJ0 cJ0_checkIndex_df160 2 none D b0 tA sa sv := X
  refine zr_lv (lv2 := [some (vi ((nI k9))), some (vi ((nI n9)))]) rfl ?_
  refine zr_iload0 X dJ0_checkIndex_df160_0 ?_
  refine zr_iload1 X dJ0_checkIndex_df160_1 ?_
  refine zr_ckF X hnt hk hn (by decide) (by decide) (by decide) (Nat.le_of_ble_eq_true rfl) dJ0_checkIndex_df160_2 dJ0_checkIndex_df160_5 ?_
  refine zr_popI X dJ0_checkIndex_df160_8 ?_
  refine zr_vret X (by decide) (by decide) dJ0_checkIndex_df160_9 ?_
  exact k1
def zSW : List (List Nat) := [[114, 111, 119], [103, 97, 116, 101], [98, 111, 116, 104], [111, 117, 116], [105, 110], [99, 97, 114, 100], [108, 105, 115, 116], [119, 97, 105, 116], [116, 105, 99, 107], [107, 101, 121], [114, 111, 119, 32], [32], [59], [103, 97, 116, 101, 32, 105, 110, 59], [103, 97, 116, 101, 32, 111, 117, 116, 59], [103, 97, 116, 101, 32, 98, 111, 116, 104, 59], [99, 97, 114, 100, 32], [119, 97, 105, 116, 32], [32, 105, 110], [32, 111, 117, 116], [32, 59], [116, 105, 99, 107, 32]]
theorem zSW_all : ∀ i, i < 22 → (zSW.getD i []).length = zSL.getD i 0 ∧ ∀ k, k < zSL.getD i 0 → ((((zSB.getD i []).getD k 0) &&& 255).toUInt32 % 65536).toInt32 = nI ((zSW.getD i []).getD k 0) ∧ (zSW.getD i []).getD k 0 < 123 ∧ (i < 10 → 96 < (zSW.getD i []).getD k 0) ∧ narrow .char (.int (nI ((zSW.getD i []).getD k 0))) = .int (nI ((zSW.getD i []).getD k 0)) := by decide +kernel
set_option maxRecDepth 20000 in
theorem zp_J1_charAt_3b067 {l : Launch} {D : va_G} {b0 : Nat} {tA : Nat → ClassId} {sa sv : Nat → Nat} {K : zKt} {I : zI} {Qp : zI → Option AV → Prop} {Xp : String → zI → Prop} {i k9 : Nat}
    (hi20 : i < 22) (hk : k9 < zSL.getD i 0) (k1 : Qp I (some (vi (nI ((zSW.getD i []).getD k9 0))))) :
    zC l D b0 tA sa sv K yJ1_charAt_3b067 (.code yJ1_charAt_3b067 cJ1_charAt_3b067 2 (some .char)) zrm_J1_charAt_3b067 [vr (sa (38 + i)) (62 + i), vi ((nI k9))] I Qp Xp := by
  have hl9 : ∀ i, i < 22 → zSL.getD i 0 < 2 ^ 30 := by decide
  have hl8 := hl9 i hi20
  refine zC_of (by decide +kernel) (Nat.le_of_ble_eq_true rfl) ?_
  intro p e s m args below meth c X hnt
  have X : zX p l e zrm_J1_charAt_3b067 s m args below meth c RJ1 cJ1_charAt_3b067 2 (some .char) D b0 tA sa sv := X
  refine zr_lv (lv2 := [some (vr (sa (38 + i)) (62 + i)), some (vi ((nI k9)))]) rfl ?_
  refine zr_iload1 X dJ1_charAt_3b067_0 ?_
  refine zr_aload0 X dJ1_charAt_3b067_1 ?_
  refine zr_lenS (i := i) X (by omega) dJ1_charAt_3b067_2 ?_
  refine zr_callX2 (rm9 := zrm_J0_checkIndex_df160) X hnt zm_J1_9 (by decide) (by decide) (by decide) (Nat.le_of_ble_eq_true rfl) dJ1_charAt_3b067_3 ?_
  refine zp_J0_checkIndex_df160 (by omega) (by omega) ?_
  refine zr_aload0 X dJ1_charAt_3b067_6 ?_
  refine zr_iload1 X dJ1_charAt_3b067_7 ?_
  refine zr_baldS (i := i) (k := k9) X (by omega) (by omega) (by omega) dJ1_charAt_3b067_8 ?_
  refine zr_sipush (v := (255 : Int32)) X dJ1_charAt_3b067_9 (by decide) ?_
  refine zr_iand X dJ1_charAt_3b067_12 ?_
  refine zr_i2c X dJ1_charAt_3b067_13 ?_
  refine zr_eq (x2 := (nI ((zSW.getD i []).getD k9 0))) (((zSW_all i hi20).2 k9 hk).1) ?_
  refine zr_nret X (by exact ((zSW_all i hi20).2 k9 hk).2.2.2) (by decide) (by decide) dJ1_charAt_3b067_14 ?_
  exact k1
set_option maxRecDepth 20000 in
theorem zp_J0_charAt_5068e {l : Launch} {D : va_G} {b0 : Nat} {tA : Nat → ClassId} {sa sv : Nat → Nat} {K : zKt} {I : zI} {Qp : zI → Option AV → Prop} {Xp : String → zI → Prop} {i k9 : Nat}
    (hi20 : i < 22) (hk : k9 < zSL.getD i 0) (k1 : Qp I (some (vi (nI ((zSW.getD i []).getD k9 0))))) :
    zC l D b0 tA sa sv K yJ0_charAt_5068e (.code yJ0_charAt_5068e cJ0_charAt_5068e 2 (some .char)) zrm_J0_charAt_5068e [vr (sa i) (24 + i), vi ((nI k9))] I Qp Xp := by
  have hl9 : ∀ i, i < 22 → zSL.getD i 0 < 2 ^ 30 := by decide
  have hl8 := hl9 i hi20
  refine zC_of (by decide +kernel) (Nat.le_of_ble_eq_true rfl) ?_
  intro p e s m args below meth c X hnt
  have X : zX p l e zrm_J0_charAt_5068e s m args below meth c RJ0 cJ0_charAt_5068e 2 (some .char) D b0 tA sa sv := X
  refine zr_lv (lv2 := [some (vr (sa i) (24 + i)), some (vi ((nI k9)))]) rfl ?_
  refine zr_aload0 X dJ0_charAt_5068e_0 ?_
  refine zr_callW0 (rm9 := zrm_J0_isLatin1_aae02) X hnt (by omega) zm_J0_492 (by decide) (by decide) (by decide) (Nat.le_of_ble_eq_true rfl) dJ0_charAt_5068e_1 ?_
  refine zp_J0_isLatin1_aae02 (by omega) ?_
  refine zr_if_eq (tgt := 16) X dJ0_charAt_5068e_4 (by decide) (fun h => absurd h (by decide)) (fun _ => ?_)
  refine zr_aload0 X dJ0_charAt_5068e_7 ?_
  refine zr_strV (i := i) X (by omega) dJ0_charAt_5068e_8 ?_
  refine zr_iload1 X dJ0_charAt_5068e_11 ?_
  refine zr_callX2 (rm9 := zrm_J1_charAt_3b067) X hnt zm_J0_495 (by decide) (by decide) (by decide) (Nat.le_of_ble_eq_true rfl) dJ0_charAt_5068e_12 ?_
  refine zp_J1_charAt_3b067 (i := i) (by omega) (by omega) ?_
  refine zr_nret X (by exact ((zSW_all i hi20).2 k9 hk).2.2.2) (by decide) (by decide) dJ0_charAt_5068e_15 ?_
  exact k1
