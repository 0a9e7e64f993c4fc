/-! ===== more facts of the tables: Math, Integer.bitCount, constants; calls of another class's static methods ===== -/
theorem zmi : Cond.initialized "java/lang/Math" ∈ zALL := zin (List.mem_append_right _ (List.mem_of_getElem? (i := 12) (by decide +kernel))) rfl
theorem zms_min : Cond.static Lib.Math.min.name ∈ zALL := zin (List.mem_append_right _ (List.mem_of_getElem? (i := 605) (by decide +kernel))) rfl
theorem zmc_min : Cond.code Lib.Math.min.name Lib.Math.min.code 2 (some .int) ∈ zALL := zin (List.mem_append_right _ (List.mem_of_getElem? (i := 606) (by decide +kernel))) rfl
theorem zmm_X3_54 : Cond.methodLink RX3 54 Lib.Math.min.name ∈ zALL := zin (List.mem_append_right _ (List.mem_of_getElem? (i := 604) (by decide +kernel))) rfl
theorem zmm_X2_25 : Cond.methodLink RX2 25 Lib.Math.min.name ∈ zALL := zin (List.mem_append_right _ (List.mem_of_getElem? (i := 886) (by decide +kernel))) rfl
theorem zms_abs : Cond.static Lib.Math.abs.name ∈ zALL := zin (List.mem_append_right _ (List.mem_of_getElem? (i := 1331) (by decide +kernel))) rfl
theorem zmc_abs : Cond.code Lib.Math.abs.name Lib.Math.abs.code 1 (some .int) ∈ zALL := zin (List.mem_append_right _ (List.mem_of_getElem? (i := 1332) (by decide +kernel))) rfl
theorem zmm_X7_206 : Cond.methodLink RX7 206 Lib.Math.abs.name ∈ zALL := zin (List.mem_append_right _ (List.mem_of_getElem? (i := 1330) (by decide +kernel))) rfl
theorem zk_J6_265 : Cond.constant RJ6 265 (1431655765 : Int32) ∈ zALL := zin (List.mem_append_right _ (List.mem_of_getElem? (i := 806) (by decide +kernel))) rfl
theorem zk_J6_266 : Cond.constant RJ6 266 (858993459 : Int32) ∈ zALL := zin (List.mem_append_right _ (List.mem_of_getElem? (i := 807) (by decide +kernel))) rfl
theorem zk_J6_267 : Cond.constant RJ6 267 (252645135 : Int32) ∈ zALL := zin (List.mem_append_right _ (List.mem_of_getElem? (i := 808) (by decide +kernel))) rfl
theorem zk_L_42 : Cond.constant RL 42 (-2000000098 : Int32) ∈ zALL := zin (List.mem_append_right _ (List.mem_of_getElem? (i := 887) (by decide +kernel))) rfl
theorem zk_L_55 : Cond.constant RL 55 (-2000000097 : Int32) ∈ zALL := zin (List.mem_append_right _ (List.mem_of_getElem? (i := 953) (by decide +kernel))) rfl
theorem zk_L_65 : Cond.constant RL 65 (-2000000100 : Int32) ∈ zALL := zin (List.mem_append_right _ (List.mem_of_getElem? (i := 954) (by decide +kernel))) rfl
theorem zk_L_98 : Cond.constant RL 98 (-2000000099 : Int32) ∈ zALL := zin (List.mem_append_right _ (List.mem_of_getElem? (i := 1078) (by decide +kernel))) rfl
theorem zk_X11_13 : Cond.constant RX11 13 (1103515245 : Int32) ∈ zALL := zin (List.mem_append_right _ (List.mem_of_getElem? (i := 1141) (by decide +kernel))) rfl
theorem zk_X7_270 : Cond.constantLong RX7 270 (31 : Int64) ∈ zALL := zin (List.mem_append_right _ (List.mem_of_getElem? (i := 1276) (by decide +kernel))) rfl
theorem zk_X12_177 : Cond.constantLong RX12 177 (31 : Int64) ∈ zALL := zin (List.mem_append_right _ (List.mem_of_getElem? (i := 1313) (by decide +kernel))) rfl
def zMx (own : String) (index : Nat) (y : MethodName) (bytes : ByteArray) (maxL : Nat) (r9 : Option FieldType) (n : Nat) : Prop := (y.cls ≠ "java/lang/invoke/MethodHandle" ∧ y.cls ≠ "java/lang/invoke/VarHandle" ∧ (parseMethodDescriptor y.desc).map (fun d => d.parameters.length) = some n) ∧ Cond.methodLink own index y ∈ zALL ∧ Cond.static y ∈ zALL ∧ Cond.initialized y.cls ∈ zALL ∧ Cond.code y bytes maxL r9 ∈ zALL
theorem zm_X5_162 : zMx RX5 162 yJ6_bitCount_0f7a4 cJ6_bitCount_0f7a4 1 (some .int) 1 := ⟨by decide +kernel, zin (List.mem_append_right _ (List.mem_of_getElem? (i := 803) (by decide +kernel))) rfl, zin (List.mem_append_right _ (List.mem_of_getElem? (i := 804) (by decide +kernel))) rfl, zin (List.mem_append_right _ (List.mem_of_getElem? (i := 11) (by decide +kernel))) rfl, zin (List.mem_append_right _ (List.mem_of_getElem? (i := 805) (by decide +kernel))) rfl⟩
section ZCB
variable {p : Program} {l : Launch} {e : Env} {R : Room} {s : State} {m : MethodId} {args : Array Value} {below : List Frame} {meth : Method} {c : Code} {cells slots : Nat} {Q : State → Prop}
variable {cc : ByteArray} {pc nL : Nat} {D : va_G} {b0 : Nat} {tA : Nat → ClassId} {sa sv : Nat → Nat} {K : zKt} {own : String} {ret : Option FieldType} {lv : List (Option AV)} {st : List AV} {I : zI}
variable {rm : Room} {Qp : zI → Option AV → Prop} {Xp : String → zI → Prop}
theorem zgoodX {own : String} {index : Nat} {y : MethodName} {ws : List Cond} (h1 : Cond.methodLink own index y ∈ zALL) (h2 : Cond.static y ∈ zALL) (h4 : Cond.initialized y.cls ∈ zALL) (hG : GoodIn zALL ws) : GoodIn zALL (va_wsS own index y ws) := by
  intro w hw
  unfold va_wsS at hw
  rcases List.mem_append.mp hw with hw | hw
  · simp only [List.mem_cons, List.not_mem_nil, or_false] at hw
    rcases hw with rfl | rfl | rfl
    · exact ⟨h1, good_of_word (List.mem_filter.mp h1).2⟩
    · exact ⟨h2, good_of_word (List.mem_filter.mp h2).2⟩
    · exact ⟨h4, good_of_word (List.mem_filter.mp h4).2⟩
  · exact hG w hw
theorem zr_callX (X : zX p l e R s m args below meth c own cc nL ret D b0 tA sa sv) (hnt : ∀ x ∈ c.exceptionTable.toList, False) {index maxL n : Nat} {y : MethodName} {bytes : ByteArray} {r9 : Option FieldType} {rm9 : Room} {As : List AV} {st9 : List AV} (F : zMx own index y bytes maxL r9 n)
    (hst : st9 = As.reverse ++ st) (hn : As.length = n) (hR : rm9.frames + 1 ≤ R.frames ∧ 8 + (maxL + 11) + rm9.locals ≤ R.locals) (hf : cells + rm9.cells ≤ R.cells ∧ slots + rm9.slots ≤ R.slots) (hf2 : cells + rm9.cells ≤ rm.cells ∧ slots + rm9.slots ≤ rm.slots) (hw : ((st.map zv).map fun v => v.category).sum ≤ 8) (hd : decode cc pc = .ok (.invokestatic index, 3))
    (hM : zC l D b0 tA sa sv K y (.code y bytes maxL r9) rm9 As I (fun I' r => zG p l e R s m args below meth c nL D b0 tA sa (cells + rm9.cells) (slots + rm9.slots) (zQ below D b0 tA sa K args s rm Qp Xp) K (pc + 3) lv (zpush r st) I') Xp) :
    zG p l e R s m args below meth c nL D b0 tA sa cells slots (zQ below D b0 tA sa K args s rm Qp Xp) K pc lv st9 I := by
  subst hst
  intro hi hs hl ls hls H locs hP hS
  obtain ⟨f3, f4, f5, f7, f8⟩ := F
  have hs2 := zoks_app hs
  have hav : zoks sa K As := zoks_of (fun v hv => zoks_rev hs2.1 v (List.mem_reverse.mpr hv))
  have hnL : ls.size = nL := by obtain ⟨l9, h9, -⟩ := hls; exact h9.1
  refine zr_back X (st := st) (lv := lv) hnt (vx_runS (As := As.map zv) (Ts := zALL) (cc := cc) (nL := nL) (own := own) ⟨X.1, X.2.1, X.2.2.1, X.2.2.2.1, X.2.2.2.2.1⟩ hM (va_cwS n X.2.2.2.2.1 (zgoodX f4 f5 f7 (zgood f8)) rfl rfl rfl f3 hR) ⟨zblind, fun U hU hW => zpre X hi hav hP hS U hU hW⟩ rfl (by rw [List.length_map]; exact hn) hnL ?_ (lv_room hw) hd hf) hS hf2.1 hf2.2 hl hls hs2.2 (fun I' r h => h)
  show ((As.reverse ++ st).map zv) = (As.map zv).reverse ++ st.map zv
  rw [List.map_append, List.map_reverse]
theorem zr_callX1 (X : zX p l e R s m args below meth c own cc nL ret D b0 tA sa sv) (hnt : ∀ x ∈ c.exceptionTable.toList, False) {index maxL : Nat} {y : MethodName} {bytes : ByteArray} {r9 : Option FieldType} {rm9 : Room} {x1 : AV} (F : zMx own index y bytes maxL r9 1)
    (hR : rm9.frames + 1 ≤ R.frames ∧ 8 + (maxL + 11) + rm9.locals ≤ R.locals) (hf : cells + rm9.cells ≤ R.cells ∧ slots + rm9.slots ≤ R.slots) (hf2 : cells + rm9.cells ≤ rm.cells ∧ slots + rm9.slots ≤ rm.slots) (hw : ((st.map zv).map fun v => v.category).sum ≤ 8) (hd : decode cc pc = .ok (.invokestatic index, 3))
    (hM : zC l D b0 tA sa sv K y (.code y bytes maxL r9) rm9 [x1] I (fun I' r => zG p l e R s m args below meth c nL D b0 tA sa (cells + rm9.cells) (slots + rm9.slots) (zQ below D b0 tA sa K args s rm Qp Xp) K (pc + 3) lv (zpush r st) I') Xp) :
    zG p l e R s m args below meth c nL D b0 tA sa cells slots (zQ below D b0 tA sa K args s rm Qp Xp) K pc lv (x1 :: st) I := zr_callX X hnt (As := [x1]) F rfl rfl hR hf hf2 hw hd hM
theorem zr_iushr (X : zX p l e R s m args below meth c own cc nL ret D b0 tA sa sv) {x y : Int32} (hd : decode cc pc = .ok (.iushr, 1)) (k : zG p l e R s m args below meth c nL D b0 tA sa cells slots Q K (pc + 1) lv (vi ((x.toUInt32 >>> (y.toUInt32 &&& Int32.toUInt32 31)).toInt32) :: st) I) : zG p l e R s m args below meth c nL D b0 tA sa cells slots Q K pc lv (vi y :: vi x :: st) I := by
  intro hi hs hl ls hls H locs hP hS
  exact lv_iushr X.1 X.2.1 hd rfl (k hi ⟨trivial, hs.2.2⟩ hl ls hls H locs hP hS)
theorem zr_ldcw (X : zX p l e R s m args below meth c own cc nL ret D b0 tA sa sv) {index : Nat} {v : Int32} (hw : Cond.constant own index v ∈ zALL) (hd : decode cc pc = .ok (.ldc_w index, 3)) (k : zG p l e R s m args below meth c nL D b0 tA sa cells slots Q K (pc + 3) lv (vi v :: st) I) : zG p l e R s m args below meth c nL D b0 tA sa cells slots Q K pc lv st I := by
  intro hi hs hl ls hls H locs hP hS
  exact lv_ldcw X.1 X.2.1 X.2.2.2.1 (X.2.2.2.2.1 _ hw) hd (k hi ⟨trivial, hs⟩ hl ls hls H locs hP hS)
end ZCB
