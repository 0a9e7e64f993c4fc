/-! ===== throwing ===== -/
def zEN : List String := ["java/lang/RuntimeException", "java/lang/Exception"]
/-- the tables' facts of a class that is thrown with a text -/
def zTh (cls : String) (ik ic : Nat) : Prop := Bundle.fit cls = true ∧ (∀ n ∈ zEN, Bundle.fit n = true) ∧ Cond.classLink RX7 ik cls ∈ zALL ∧ Cond.initialized cls ∈ zALL ∧ (∀ w ∈ vx_atS RX7 ic cls zEN, w ∈ lw_tbl) ∧ (∀ w ∈ Cond.classLink RX7 ik cls :: Cond.initialized cls :: vx_atS RX7 ic cls zEN, vx_ot w = true) ∧ ∀ w ∈ vx_atS RX7 ic cls zEN, (goodWord w || zNest w) = true
section ZTH
variable {p : Program} {l : Launch} {e : Env} {R : Room} {s : State} {m : MethodId} {args : Array Value} {below : List Frame} {meth : Method} {c : Code} {cells slots : Nat} {Q : State → Prop}
variable {cc : ByteArray} {pc nL : Nat} {D : va_G} {b0 : Nat} {tA : Nat → ClassId} {sa sv : Nat → Nat} {K : zKt} {own : String} {ret : Option FieldType} {lv : List (Option AV)} {st : List AV} {I : zI}
variable {rm : Room} {Qp : zI → Option AV → Prop} {Xp : String → zI → Prop}
theorem zK.nst {l : Launch} {U : State} (h : zK D b0 tA sa sv l U) : l.stackTraces = false := h.2.2.2.2.2.2.2.2.2.1
theorem zThat {U : State} {l : Launch} {A : Array Value} (hK : zK D b0 tA sa sv l U) (hA : ∀ w ∈ zALL, w.before A U = true) {cls : String} {ik ic : Nat} (T : zTh cls ik ic) : ∀ w ∈ vx_atS RX7 ic cls zEN, w.before A U = true := by
  intro w hw
  have h1 := T.2.2.2.2.1 w hw
  have h2 := T.2.2.2.2.2.2 w hw
  rw [Bool.or_eq_true] at h2
  rcases h2 with h2 | h2
  · exact hA w (zin h1 h2)
  · exact va_Nw.use (zNest_tab h2) (hK.2.2.1 w h1 h2)
theorem zr_throwS (X : zX p l e R s m args below meth c RX7 cc nL ret D b0 tA sa sv) (hnt : ∀ x ∈ c.exceptionTable.toList, False) {cls text : String} {ik ic is i : Nat} (T : zTh cls ik ic) (hq : zST[i]? = some (RX7, is, text)) (d0 : decode cc pc = .ok (.new ik, 3)) (d3 : decode cc (pc + 3) = .ok (.dup, 1)) (d4 : decode cc (pc + 4) = .ok (.ldc is, 2)) (d6 : decode cc (pc + 6) = .ok (.invokespecial ic, 3)) (d9 : decode cc (pc + 9) = .ok (.athrow, 1))
    (hR : 5 < R.frames ∧ 90 ≤ R.locals) (hw : ((st.map zv).map fun v => v.category).sum ≤ 8) (hc : cells + 1 ≤ R.cells ∧ slots + 6 ≤ R.slots) (hc2 : cells + 1 ≤ rm.cells ∧ slots + 6 ≤ rm.slots) (h : Xp cls I) : zG p l e R s m args below meth c nL D b0 tA sa cells slots (zQ below D b0 tA sa K args s rm Qp Xp) K pc lv st I := by
  intro hi hs hl ls hls H locs hP hS
  have hsize : ls.size = c.maxLocals := by obtain ⟨l9, h9, -⟩ := hls; rw [X.2.2.1]; exact h9.1
  have hK := X.2.2.2.2.2.2.1
  exact vx_throwS (A := fun q => b0 ≤ q) X.1 X.2.1 hK.nst X.2.2.2.1 T.1 T.2.1 (X.2.2.2.2.1 _ T.2.2.1) (X.2.2.2.2.1 _ T.2.2.2.1) (hK.2.2.2.2.2.2.1 i _ hq) (zThat hK X.2.2.2.2.1 T) T.2.2.2.2.2.1 hK.2.2.2.2.1 hK.2.2.2.2.2.1 hS hsize d0 d3 d4 d6 d9 (fun x hx => (hnt x hx).elim) (by show 2 + 3 < _; omega) (by show _ + (13 * (2 + 1) + 43) ≤ _; omega) hc.1 hc.2 X.2.2.2.2.2.1
    (fun t _ hsz hsame => ⟨⟨I, h, hi, hP.kept hsame⟩, ⟨Nat.le_trans hS.1 hsz, fun q h1 h2 => (hsame q (Nat.lt_of_lt_of_le h1 hS.1)).trans (hS.2.1 q h1 h2)⟩⟩) hS.2.2 hc2.1 hc2.2
theorem zr_throwW (X : zX p l e R s m args below meth c RX7 cc nL ret D b0 tA sa sv) (hnt : ∀ x ∈ c.exceptionTable.toList, False) {cls text : String} {ik ic is i : Nat} (T : zTh cls ik ic) (hq : zST[i]? = some (RX7, is, text)) (d0 : decode cc pc = .ok (.new ik, 3)) (d3 : decode cc (pc + 3) = .ok (.dup, 1)) (d4 : decode cc (pc + 4) = .ok (.ldc_w is, 3)) (d7 : decode cc (pc + 7) = .ok (.invokespecial ic, 3)) (d10 : decode cc (pc + 10) = .ok (.athrow, 1))
    (hR : 5 < R.frames ∧ 90 ≤ R.locals) (hw : ((st.map zv).map fun v => v.category).sum ≤ 8) (hc : cells + 1 ≤ R.cells ∧ slots + 6 ≤ R.slots) (hc2 : cells + 1 ≤ rm.cells ∧ slots + 6 ≤ rm.slots) (h : Xp cls I) : zG p l e R s m args below meth c nL D b0 tA sa cells slots (zQ below D b0 tA sa K args s rm Qp Xp) K pc lv st I := by
  intro hi hs hl ls hls H locs hP hS
  have hsize : ls.size = c.maxLocals := by obtain ⟨l9, h9, -⟩ := hls; rw [X.2.2.1]; exact h9.1
  have hK := X.2.2.2.2.2.2.1
  exact vx_throwSW (A := fun q => b0 ≤ q) X.1 X.2.1 hK.nst X.2.2.2.1 T.1 T.2.1 (X.2.2.2.2.1 _ T.2.2.1) (X.2.2.2.2.1 _ T.2.2.2.1) (hK.2.2.2.2.2.2.1 i _ hq) (zThat hK X.2.2.2.2.1 T) T.2.2.2.2.2.1 hK.2.2.2.2.1 hK.2.2.2.2.2.1 hS hsize d0 d3 d4 d7 d10 (fun x hx => (hnt x hx).elim) (by show 2 + 3 < _; omega) (by show _ + (13 * (2 + 1) + 43) ≤ _; omega) hc.1 hc.2 X.2.2.2.2.2.1
    (fun t _ hsz hsame => ⟨⟨I, h, hi, hP.kept hsame⟩, ⟨Nat.le_trans hS.1 hsz, fun q h1 h2 => (hsame q (Nat.lt_of_lt_of_le h1 hS.1)).trans (hS.2.1 q h1 h2)⟩⟩) hS.2.2 hc2.1 hc2.2
end ZTH
theorem zth_iae : zTh "java/lang/IllegalArgumentException" 78 82 := by
  refine ⟨by decide +kernel, by decide +kernel, zin (List.mem_append_right _ (List.mem_of_getElem? (i := 516) (by decide +kernel))) rfl, zin (List.mem_append_right _ (List.mem_of_getElem? (i := 16) (by decide +kernel))) rfl, by decide +kernel, by decide +kernel, by decide +kernel⟩
theorem zth_ioo : zTh "java/lang/IndexOutOfBoundsException" 287 291 := by
  refine ⟨by decide +kernel, by decide +kernel, zin (List.mem_append_right _ (List.mem_of_getElem? (i := 914) (by decide +kernel))) rfl, zin (List.mem_append_right _ (List.mem_of_getElem? (i := 17) (by decide +kernel))) rfl, by decide +kernel, by decide +kernel, by decide +kernel⟩
theorem zth_ise : zTh "java/lang/IllegalStateException" 224 228 := by
  refine ⟨by decide +kernel, by decide +kernel, zin (List.mem_append_right _ (List.mem_of_getElem? (i := 1061) (by decide +kernel))) rfl, zin (List.mem_append_right _ (List.mem_of_getElem? (i := 19) (by decide +kernel))) rfl, by decide +kernel, by decide +kernel, by decide +kernel⟩
