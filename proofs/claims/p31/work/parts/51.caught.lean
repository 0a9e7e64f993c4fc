/-! ===== calls that may be caught here; a callee with a table of its own; the script ===== -/
theorem zgoodS9 {own : String} {index : Nat} {y : MethodName} {ws : List Cond} (h0 : y.cls = own) (h1 : Cond.methodLink own index y ∈ zALL) (h2 : Cond.static y ∈ zALL) (h4 : Cond.initialized own ∈ zALL) (hG : GoodIn zALL ws) : GoodIn zALL (va_wsS own index y ws) := by
  intro w hw
  unfold va_wsS at hw
  rcases List.mem_append.mp hw with hw | hw
  · simp only [List.mem_cons, List.not_mem_nil, or_false] at hw
    rcases hw with rfl | rfl | rfl
    · exact ⟨h1, good_of_word (List.mem_filter.mp h1).2⟩
    · exact ⟨h2, good_of_word (List.mem_filter.mp h2).2⟩
    · rw [h0]; exact ⟨h4, good_of_word (List.mem_filter.mp h4).2⟩
  · exact hG w hw
section ZL
variable {p : Program} {l : Launch} {e : Env} {R : Room} {s : State} {m : MethodId} {args : Array Value} {below : List Frame} {meth : Method} {c : Code} {cells slots : Nat} {Q : State → Prop}
variable {cc : ByteArray} {pc nL : Nat} {D : va_G} {b0 : Nat} {tA : Nat → ClassId} {sa sv : Nat → Nat} {K : zKt} {own : String} {ret : Option FieldType} {lv : List (Option AV)} {st : List AV} {I : zI} {rm : Room} {Qp : zI → Option AV → Prop} {Xp : String → zI → Prop}
theorem zCW_of {y : MethodName} {r9 : Option FieldType} {av : List AV} {hh : List (Nat × Nat × Nat × Nat)} (hy : plainName y.cls = true) (hlen : (lg_sl (av.map zv)).length ≤ nL)
    (body : ∀ (p : Program) (e : Env) (s : State) (m : MethodId) (args : Array Value) (below : List Frame) (meth : Method) (c : Code), zX p l e rm s m args below meth c y.cls cc nL r9 D b0 tA sa sv → c.exceptionTable.toList = tableOf hh → zG p l e rm s m args below meth c nL D b0 tA sa 0 0 (zQ below D b0 tA sa K args s rm Qp Xp) K 0 (zargs av nL) [] I) :
    zC l D b0 tA sa sv K y (.codeWith y cc nL r9 hh) rm av I Qp Xp := by
  refine vx_ofWH (cc := cc) (maxL := nL) (ret := r9) (hh := hh) hy rfl ?_
  intro p e s m args below meth c s₁ B hml hv
  obtain ⟨hargs, hinv, hav, hP, hK⟩ := hv
  have hts : ∀ w ∈ Cond.codeWith y cc nL r9 hh :: zALL, w.before args s = true := atoms_spec B.pre
  have X : zX p l e rm s m args below meth c y.cls cc nL r9 D b0 tA sa sv := ⟨B.exec, B.bytes, hml, findClass_of_methodNamed B.named, fun w h => hts w (List.mem_cons_of_mem _ h), B.notSynchronized, hK, B.returns⟩
  have hl := lv_entry (av.map zv) (n := nL) hlen
  have ht := vx_table (x := y) B (hts _ List.mem_cons_self)
  subst hargs
  rw [lg_entry_eq]
  exact body p e s m _ below meth c X ht hinv trivial (zargs_ok av nL hav) _ ⟨_, hl, fun j v h => by have := zargs_in av nL 0 j v h; rwa [Nat.zero_add] at this⟩ s.heap [] hP va_S.rf
/-- a throw that arrived here over I' -/
def zGx (p : Program) (l : Launch) (e : Env) (R : Room) (s : State) (m : MethodId) (args : Array Value) (below : List Frame) (meth : Method) (c : Code) (nL : Nat) (D : va_G) (b0 : Nat) (tA : Nat → ClassId) (sa : Nat → Nat) (cells slots : Nat) (Q : State → Prop) (K : zKt) (pc : Nat) (lv : List (Option AV)) (st : List AV) (E : String) (I : zI) : Prop :=
  ∀ (H : Heap) (locs : List Loc) (q : Nat) (ce : Cell) (ls : Array Slot), zinv K I → zokl sa K lv → zlv ls nL lv → zhp D b0 (zEof tA K I) H → va_S (fun q => b0 ≤ q) s.heap H locs → H[q]? = some ce → ce.vm = .none → s.vm.findClass E = some ce.cls → vx_W p l e R s m args below meth c H locs cells slots Q (F0 m pc ls (st.map zv)) q
theorem zr_backX {mc ms : Nat} {ls : Array Slot} {st0 : List Value} {a : Array Value} {Qp' : zI → Option AV → Prop} {Xp' : String → zI → Prop} {locs : List Loc} {H : Heap}
    (hr : vx_Run p l e R s m args below meth c H locs cells slots mc ms (F0 m pc ls st0) (st.map zv) (zQc D b0 tA sa K Qp' a) (zXc D b0 tA K Xp') (fun q => b0 ≤ q)) (hS : va_S (fun q => b0 ≤ q) s.heap H locs)
    (hl : zokl sa K lv) (hls : zlv ls nL lv) (hs : zoks sa K st)
    (kx : ∀ (E : String) (I' : zI), Xp' E I' → zGx p l e R s m args below meth c nL D b0 tA sa (cells + mc) (slots + ms) Q K pc lv st E I')
    (kk : ∀ (I' : zI) (r : Option AV), Qp' I' r → zG p l e R s m args below meth c nL D b0 tA sa (cells + mc) (slots + ms) Q K (pc + 3) lv (zpush r st) I') :
    W p l e R s m args below meth c H locs cells slots Q (F0 m pc ls st0) := by
  intro T hT XS
  rcases hr T hT XS with ⟨v, st₀, t, T', L, h0, X', hL, e1, e2, ⟨⟨I', r, hv, hq, hok, hinv', hP'⟩, hF⟩, st9⟩ | ⟨q, st₀, t, T', L, E, ce, h0, X', hL, e1, e2, ⟨⟨I', hx, hinv', hP'⟩, hF⟩, hce, hcv, hcl, st9⟩
  · obtain ⟨k1, k2, k3⟩ := vx_keep h0 e1 hS (fun _ _ h => h) (fun _ h => h) hL hF
    have hv9 : v = r.map zv := Outcome.returned.inj hv
    subst hv9
    obtain ⟨t2, a1, b1⟩ := kk I' r hq hinv' (zpush_ok hok hs) hl ls hls T'.heap (locs ++ L) (by rw [e1]; exact hP') k3 T' rfl X'
    refine ⟨t2, st9 t2 ?_, b1⟩
    have e9 := zpush_map (r := r) (st := st)
    rw [e9]
    exact a1
  · obtain ⟨k1, k2, k3⟩ := vx_keep h0 e1 hS (fun _ _ h => h) (fun _ h => h) hL hF
    obtain ⟨t2, a1, b1⟩ := kx E I' hx T'.heap (locs ++ L) q ce ls hinv' hl hls (by rw [e1]; exact hP') k3 (by rw [e1]; exact hce) hcv hcl T' rfl X'
    exact ⟨t2, st9.trans a1, b1⟩
theorem zr_callVX (X : zX p l e R s m args below meth c own cc nL ret D b0 tA sa sv) {index ci maxL n a : Nat} {y : MethodName} {bytes : ByteArray} {r9 : Option FieldType} {rm9 : Room} {As : List AV} {st9 : List AV} {Xp' : String → zI → Prop} (F : zMv own index ci y bytes maxL r9 n)
    (hst : st9 = As.reverse ++ vr a ci :: st) (hn : As.length = n) (hR : rm9.frames + 1 ≤ R.frames ∧ 8 + (maxL + 11) + rm9.locals ≤ R.locals) (hf : cells + rm9.cells ≤ R.cells ∧ slots + rm9.slots ≤ R.slots) (hw : ((st.map zv).map fun v => v.category).sum ≤ 8) (hd : decode cc pc = .ok (.invokevirtual index, 3))
    (kx : ∀ (E : String) (I' : zI), Xp' E I' → zGx p l e R s m args below meth c nL D b0 tA sa (cells + rm9.cells) (slots + rm9.slots) Q K pc lv st E I')
    (hM : zC l D b0 tA sa sv K y (.code y bytes maxL r9) rm9 (vr a ci :: As) I (fun I' r => zG p l e R s m args below meth c nL D b0 tA sa (cells + rm9.cells) (slots + rm9.slots) Q K (pc + 3) lv (zpush r st) I') Xp') :
    zG p l e R s m args below meth c nL D b0 tA sa cells slots Q K pc lv st9 I := by
  subst hst
  intro hi hs hl ls hls H locs hP hS
  obtain ⟨C, T, N, f1, f2, f3, f4, f5, f6, f7, f8⟩ := F
  have hs2 := zoks_app hs
  have hK := zok_k hs2.2.1 (zob_lt f2)
  have hav : zoks sa K (vr a ci :: As) := ⟨hs2.2.1, zoks_of (fun v hv => zoks_rev hs2.1 v (List.mem_reverse.mpr hv))⟩
  have hcell := (hP a _ (zEof_at hK)).1
  rw [show zcell tA ci a (K.2 a) (I a) = .inr (zci ci, zfl ci a (K.2 a) (I a)) by rw [zcell, if_pos f2]] at hcell
  have hrecv := va_recv (a := a) (q0 := 0) (ws := [(a, .inr (zci ci, zfl ci a (K.2 a) (I a)))]) (H := H) X.2.2.2.2.2.2.1.1 (fun k q h => by
    cases k with
    | zero => cases h; exact hcell
    | succ k => cases h) f1 rfl
  have hnL : ls.size = nL := by obtain ⟨l9, h9, -⟩ := hls; exact h9.1
  refine zr_backX (st := st) (lv := lv) (vx_runV (As := As.map zv) (b := a) (C := C) (Ts := zALL) (cc := cc) (nL := nL) (own := own) ⟨X.1, X.2.1, X.2.2.1, X.2.2.2.1, X.2.2.2.2.1⟩ hM (cwV n X.2.2.2.2.1 (zgoodV f4 f5 f6 f7 (zgood f8)) rfl rfl rfl f3 hR) ⟨zblind, hrecv, fun U hU hW => zpre X hi hav hP hS U hU hW⟩ rfl (by rw [List.length_map]; exact hn) hnL ?_ (lv_room hw) hd hf) hS hl hls hs2.2.2 kx (fun I' r h => h)
  show ((As.reverse ++ vr a ci :: st).map zv) = (As.map zv).reverse ++ .ref a :: st.map zv
  rw [List.map_append, List.map_reverse]
  rfl
/-- .. a callee that doesn't throw -/
theorem zr_callVQ (X : zX p l e R s m args below meth c own cc nL ret D b0 tA sa sv) {index ci maxL n a : Nat} {y : MethodName} {bytes : ByteArray} {r9 : Option FieldType} {rm9 : Room} {As : List AV} {st9 : List AV} (F : zMv own index ci y bytes maxL r9 n)
    (hst : st9 = As.reverse ++ vr a ci :: st) (hn : As.length = n) (hR : rm9.frames + 1 ≤ R.frames ∧ 8 + (maxL + 11) + rm9.locals ≤ R.locals) (hf : cells + rm9.cells ≤ R.cells ∧ slots + rm9.slots ≤ R.slots) (hw : ((st.map zv).map fun v => v.category).sum ≤ 8) (hd : decode cc pc = .ok (.invokevirtual index, 3))
    (hM : zC l D b0 tA sa sv K y (.code y bytes maxL r9) rm9 (vr a ci :: As) I (fun I' r => zG p l e R s m args below meth c nL D b0 tA sa (cells + rm9.cells) (slots + rm9.slots) Q K (pc + 3) lv (zpush r st) I') (fun _ _ => False)) :
    zG p l e R s m args below meth c nL D b0 tA sa cells slots Q K pc lv st9 I := zr_callVX X F hst hn hR hf hw hd (fun _ _ h => h.elim) hM
/-- the tables' facts of a static method with a table of handlers -/
def zMh (own : String) (index : Nat) (y : MethodName) (bytes : ByteArray) (maxL : Nat) (r9 : Option FieldType) (hh : List (Nat × Nat × Nat × Nat)) (n : Nat) : Prop := (y.cls = own ∧ y.cls ≠ "java/lang/invoke/MethodHandle" ∧ y.cls ≠ "java/lang/invoke/VarHandle" ∧ (parseMethodDescriptor y.desc).map (fun d => d.parameters.length) = some n) ∧ Cond.methodLink own index y ∈ zALL ∧ Cond.static y ∈ zALL ∧ Cond.initialized own ∈ zALL ∧ Cond.codeWith y bytes maxL r9 hh ∈ zALL
theorem zr_callSX (X : zX p l e R s m args below meth c own cc nL ret D b0 tA sa sv) {index maxL n : Nat} {y : MethodName} {bytes : ByteArray} {r9 : Option FieldType} {hh : List (Nat × Nat × Nat × Nat)} {rm9 : Room} {As : List AV} {st9 : List AV} (F : zMh own index y bytes maxL r9 hh n)
    (hst : st9 = As.reverse ++ st) (hn : As.length = n) (hR : rm9.frames + 1 ≤ R.frames ∧ 8 + (maxL + 11) + rm9.locals ≤ R.locals) (hf : cells + rm9.cells ≤ R.cells ∧ slots + rm9.slots ≤ R.slots) (hw : ((st.map zv).map fun v => v.category).sum ≤ 8) (hd : decode cc pc = .ok (.invokestatic index, 3))
    (hM : zC l D b0 tA sa sv K y (.codeWith y bytes maxL r9 hh) rm9 As I (fun I' r => zG p l e R s m args below meth c nL D b0 tA sa (cells + rm9.cells) (slots + rm9.slots) Q K (pc + 3) lv (zpush r st) I') (fun _ _ => False)) :
    zG p l e R s m args below meth c nL D b0 tA sa cells slots Q K pc lv st9 I := by
  subst hst
  intro hi hs hl ls hls H locs hP hS
  obtain ⟨f3, f4, f5, f7, f8⟩ := F
  have hs2 := zoks_app hs
  have hav : zoks sa K As := zoks_of (fun v hv => zoks_rev hs2.1 v (List.mem_reverse.mpr hv))
  have hnL : ls.size = nL := by obtain ⟨l9, h9, -⟩ := hls; exact h9.1
  refine zr_backX (st := st) (lv := lv) (vx_runSX (As := As.map zv) (Ts := zALL) (cc := cc) (nL := nL) (own := own) (hh := hh) ⟨X.1, X.2.1, X.2.2.1, X.2.2.2.1, X.2.2.2.2.1⟩ hM (vx_cwSW n X.2.2.2.2.1 (zgoodS9 f3.1 f4 f5 f7 (zgoodW f8)) rfl rfl rfl f3.2 hR) ⟨zblind, fun U hU hW => zpre X hi hav hP hS U hU hW⟩ rfl (by rw [List.length_map]; exact hn) hnL ?_ (lv_room hw) hd hf) hS hl hls hs2.2 (fun _ _ h => h.elim) (fun I' r h => h)
  show ((As.reverse ++ st).map zv) = (As.map zv).reverse ++ st.map zv
  rw [List.map_append, List.map_reverse]
/-- a store of a value that nobody asks for -/
theorem zlv_storeN {ls' : Array Slot} {i : Nat} {lN : List (Nat × Value)} {v : Value} (h2 : ∀ (j : Nat) (w : AV), lv[j]? = some (some w) → (j, zv w) ∈ lN) (hz : ∀ k : Nat, k + 1 = i → ∀ w, lv[k]? = some w → z1 w = true)
    (h : lv_has ls' nL ((i, v) :: lN.filter (fun q => !(q.1 == i) && !(q.1 + 1 == i && q.2.category == 2)))) : zlv ls' nL (lv.set i none) := by
  refine ⟨_, h, fun j w hw => ?_⟩
  by_cases e : i = j
  · subst e
    rw [List.getElem?_set] at hw
    simp only [if_true] at hw
    split at hw
    · cases hw
    · cases hw
  · rw [List.getElem?_set_ne e] at hw
    refine List.mem_cons_of_mem _ (List.mem_filter.mpr ⟨h2 j w hw, ?_⟩)
    have e1 : (j == i) = false := by simp [Ne.symm e]
    by_cases e2 : j + 1 = i
    · have h9 := hz j e2 _ hw
      have h8 := zcat1 h9
      simp [e1, h8]
    · simp [e1, e2]
theorem zokl_none (h : zokl sa K lv) (i : Nat) : zokl sa K (lv.set i none) := by
  intro j w hw
  by_cases e : i = j
  · subst e
    rw [List.getElem?_set] at hw
    simp only [if_true] at hw
    split at hw
    · cases hw
    · cases hw
  · rw [List.getElem?_set_ne e] at hw
    exact h j w hw
/-- caught here by the row x of the table -/
def zHa (own : String) (hh : List (Nat × Nat × Nat × Nat)) (pc : Nat) (E : String) (hpc : Nat) : Prop := ∃ (pre : List ExceptionTableEntry) (x : ExceptionTableEntry) (suf : List ExceptionTableEntry) (name : String), tableOf hh = pre ++ x :: suf ∧ (∀ z ∈ pre, z.catchType ≠ 0 ∧ ∃ nm : String, Cond.classLink own z.catchType nm ∈ zALL ∧ (E, nm) ∈ zNC) ∧ covers x pc = true ∧ x.catchType ≠ 0 ∧ Cond.classLink own x.catchType name ∈ zALL ∧ Cond.castable E name ∈ lw_tbl ∧ x.handlerPc = hpc
theorem zr_caught (X : zX p l e R s m args below meth c own cc nL ret D b0 tA sa sv) {hh : List (Nat × Nat × Nat × Nat)} (ht : c.exceptionTable.toList = tableOf hh) {E : String} {hpc i len : Nat} (F : zHa own hh pc E hpc) (hn : i < nL) (hz : ∀ k : Nat, k + 1 = i → ∀ w, lv[k]? = some w → z1 w = true)
    (hd : (∃ kk : Fin 4, (kk : Nat) = i ∧ decode cc hpc = .ok (.astore_n kk, 1) ∧ len = 1) ∨ (decode cc hpc = .ok (.astore i, 2) ∧ len = 2))
    (k : zG p l e R s m args below meth c nL D b0 tA sa cells slots Q K (hpc + len) (lv.set i none) [] I) : zGx p l e R s m args below meth c nL D b0 tA sa cells slots Q K pc lv st E I := by
  intro H locs q ce ls hi hl hls hP hS hce hcv hcl
  obtain ⟨pre, x, suf, name, g1, g2, g3, g4, g5, g6, g7⟩ := F
  have hcast : (Cond.castable E name).before args s = true := va_Nw.use (zNest_tab rfl) (X.2.2.2.2.2.2.1.2.2.1 _ g6 rfl)
  refine vx_catch (own := own) (name := name) X.2.2.2.1 pre x suf (ht.trans g1) (fun z hzz => Or.inr ?_) g3 g4 (X.2.2.2.2.1 _ g5) hcast hce hcv hcl ?_
  · obtain ⟨a1, nm, a2, a3⟩ := g2 z hzz
    exact ⟨a1, nm, X.2.2.2.2.1 _ a2, X.2.2.2.2.2.2.1.2.2.2.2.2.2.2.2.1 _ a3⟩
  · rw [g7]
    obtain ⟨l9, h1, h2⟩ := hls
    rcases hd with ⟨kk, hk, hd, rfl⟩ | ⟨hd, rfl⟩
    · exact lv_astore_n X.1 X.2.1 hd hk h1 hn rfl (fun ls1 h9 => k hi trivial (zokl_none hl i) ls1 (zlv_storeN h2 hz h9) H locs hP hS)
    · exact lv_astore X.1 X.2.1 hd h1 hn rfl (fun ls1 h9 => k hi trivial (zokl_none hl i) ls1 (zlv_storeN h2 hz h9) H locs hP hS)
/-- the script -/
theorem zr_scr (X : zX p l e R s m args below meth c own cc nL ret D b0 tA sa sv) {j : Nat} (hj : j < sv 0) (hd : decode cc pc = .ok (.iaload, 1)) (k : zG p l e R s m args below meth c nL D b0 tA sa cells slots Q K (pc + 1) lv (vi (nI (sv (1 + j))) :: st) I) : zG p l e R s m args below meth c nL D b0 tA sa cells slots Q K pc lv (vi (nI j) :: vr (sa 37) 61 :: st) I := by
  intro hi hs hl ls hls H locs hP hS
  have hk := X.2.2.2.2.2.2.1.2.2.2.2.2.2.2.2.2.2.2.2
  exact va_ti X.1 X.2.1 hk.1 hS (vp_in_nI hj (by have := hk.2; omega)) (v := .int (nI (sv (1 + j)))) (by rw [nI_clamp (by have := hk.2; omega)]; rfl) hd (k hi ⟨trivial, hs.2.2⟩ hl ls hls H locs hP hS)
theorem zr_slen (X : zX p l e R s m args below meth c own cc nL ret D b0 tA sa sv) (hd : decode cc pc = .ok (.arraylength, 1)) (k : zG p l e R s m args below meth c nL D b0 tA sa cells slots Q K (pc + 1) lv (vi (nI (sv 0)) :: st) I) : zG p l e R s m args below meth c nL D b0 tA sa cells slots Q K pc lv (vr (sa 37) 61 :: st) I := by
  intro hi hs hl ls hls H locs hP hS
  have hk := X.2.2.2.2.2.2.1.2.2.2.2.2.2.2.2.2.2.2.2
  exact va_tlen X.1 X.2.1 hk.1 hS (v := nI (sv 0)) rfl hd (k hi ⟨trivial, hs.2⟩ hl ls hls H locs hP hS)
theorem zr_tab (X : zX p l e R s m args below meth c own cc nL ret D b0 tA sa sv) {dflt lo hi : Int} {offs : Array Int} {len : Nat} {x : Int32} {off : Int} {tgt : Nat} (hd : decode cc pc = .ok (.tableswitch dflt lo hi offs, len)) (h1 : ¬ x.toInt < lo) (h2 : ¬ hi < x.toInt) (ho : offs[(x.toInt - lo).toNat]? = some off) (ht : (pc : Int) + off = (tgt : Int)) (k : zG p l e R s m args below meth c nL D b0 tA sa cells slots Q K tgt lv st I) : zG p l e R s m args below meth c nL D b0 tA sa cells slots Q K pc lv (vi x :: st) I := by
  intro hi hs hl ls hls H locs hP hS
  exact lv_tableIn X.1 X.2.1 hd h1 h2 ho ht (k hi hs.2 hl ls hls H locs hP hS)
theorem zr_tabO (X : zX p l e R s m args below meth c own cc nL ret D b0 tA sa sv) {dflt lo hi : Int} {offs : Array Int} {len : Nat} {x : Int32} {tgt : Nat} (hd : decode cc pc = .ok (.tableswitch dflt lo hi offs, len)) (h : x.toInt < lo ∨ hi < x.toInt) (ht : (pc : Int) + dflt = (tgt : Int)) (k : zG p l e R s m args below meth c nL D b0 tA sa cells slots Q K tgt lv st I) : zG p l e R s m args below meth c nL D b0 tA sa cells slots Q K pc lv (vi x :: st) I := by
  intro hi hs hl ls hls H locs hP hS
  exact lv_tableOut X.1 X.2.1 hd h ht (k hi hs.2 hl ls hls H locs hP hS)
theorem zW_lcmp {x : Int64} {ls : Array Slot} {rest : List Value} {H : Heap} {locs : List Loc} (hexec : p.tables.exec = Jvm.exec) (hb : c.code = cc) (hd : decode cc pc = .ok (.lcmp, 1)) (k : W p l e R s m args below meth c H locs cells slots Q (F0 m (pc + 1) ls (.int 0 :: rest))) : W p l e R s m args below meth c H locs cells slots Q (F0 m pc ls (.long x :: .long x :: rest)) := by
  intro T hT X
  obtain ⟨t, a, b⟩ := k T hT X
  refine ⟨t, ?_, b⟩
  jvm_step X.here [X.here.top, hexec, hb, hd]
  simpa using a
theorem zr_lcmp (X : zX p l e R s m args below meth c own cc nL ret D b0 tA sa sv) {x : Int64} (hd : decode cc pc = .ok (.lcmp, 1)) (k : zG p l e R s m args below meth c nL D b0 tA sa cells slots Q K (pc + 1) lv (vi 0 :: st) I) : zG p l e R s m args below meth c nL D b0 tA sa cells slots Q K pc lv (vl x :: vl x :: st) I := by
  intro hi hs hl ls hls H locs hP hS
  exact zW_lcmp X.1 X.2.1 hd (k hi ⟨trivial, hs.2.2⟩ hl ls hls H locs hP hS)
/-- a plain static callee that doesn't throw -/
theorem zr_callSQ (X : zX p l e R s m args below meth c own cc nL ret D b0 tA sa sv) {index maxL n : Nat} {y : MethodName} {bytes : ByteArray} {r9 : Option FieldType} {rm9 : Room} {As : List AV} {st9 : List AV} (F : zMs own index y bytes maxL r9 n)
    (hst : st9 = As.reverse ++ st) (hn : As.length = n) (hR : rm9.frames + 1 ≤ R.frames ∧ 8 + (maxL + 11) + rm9.locals ≤ R.locals) (hf : cells + rm9.cells ≤ R.cells ∧ slots + rm9.slots ≤ R.slots) (hw : ((st.map zv).map fun v => v.category).sum ≤ 8) (hd : decode cc pc = .ok (.invokestatic index, 3))
    (hM : zC l D b0 tA sa sv K y (.code y bytes maxL r9) rm9 As I (fun I' r => zG p l e R s m args below meth c nL D b0 tA sa (cells + rm9.cells) (slots + rm9.slots) Q K (pc + 3) lv (zpush r st) I') (fun _ _ => False)) :
    zG p l e R s m args below meth c nL D b0 tA sa cells slots Q K pc lv st9 I := by
  subst hst
  intro hi hs hl ls hls H locs hP hS
  obtain ⟨f3, f4, f5, f7, f8⟩ := F
  have hs2 := zoks_app hs
  have hav : zoks sa K As := zoks_of (fun v hv => zoks_rev hs2.1 v (List.mem_reverse.mpr hv))
  have hnL : ls.size = nL := by obtain ⟨l9, h9, -⟩ := hls; exact h9.1
  refine zr_backX (st := st) (lv := lv) (vx_runS (As := As.map zv) (Ts := zALL) (cc := cc) (nL := nL) (own := own) ⟨X.1, X.2.1, X.2.2.1, X.2.2.2.1, X.2.2.2.2.1⟩ hM (cwS n X.2.2.2.2.1 (zgoodS f4 f5 f7 (zgood f8)) rfl rfl rfl f3 hR) ⟨zblind, fun U hU hW => zpre X hi hav hP hS U hU hW⟩ rfl (by rw [List.length_map]; exact hn) hnL ?_ (lv_room hw) hd hf) hS hl hls hs2.2 (fun _ _ h => h.elim) (fun I' r h => h)
  show ((As.reverse ++ st).map zv) = (As.map zv).reverse ++ st.map zv
  rw [List.map_append, List.map_reverse]
/-- what a body owes that makes things: it returns r over a K' that holds all that K held -/
def zQd (D : va_G) (b0 : Nat) (tA : Nat → ClassId) (sa : Nat → Nat) (K : zKt) (Qd : zKt → zI → Option AV → Prop) : Array Value → State → Outcome → State → Prop := fun _ st oc t =>
  (∃ (K' : zKt) (I : zI) (r : Option AV), oc = .returned (r.map zv) ∧ Qd K' I r ∧ kex K K' ∧ (∀ v, r = some v → zok sa K' v) ∧ zinv K' I ∧ zhp D b0 (zEof tA K' I) t.heap) ∧ va_F (fun q => b0 ≤ q) st t
/-- the contract of a method that makes things -/
def zD (l : Launch) (D : va_G) (b0 : Nat) (tA : Nat → ClassId) (sa sv : Nat → Nat) (K : zKt) (y : MethodName) (w : Cond) (rm : Room) (av : List AV) (I : zI) (Qd : zKt → zI → Option AV → Prop) : Prop :=
  vx_Met l y (w :: zALL) rm (zPc D b0 tA sa sv l K I av) (zQd D b0 tA sa K Qd) (fun _ _ _ => False) rm.cells rm.slots (fun q => b0 ≤ q)
abbrev zQD (below : List Frame) (D : va_G) (b0 : Nat) (tA : Nat → ClassId) (sa : Nat → Nat) (K : zKt) (args : Array Value) (s : State) (rm : Room) (Qd : zKt → zI → Option AV → Prop) : State → Prop :=
  vx_MQ below (zQd D b0 tA sa K Qd) (fun _ _ _ => False) args s rm.cells rm.slots (fun q => b0 ≤ q)
theorem zD_of {y : MethodName} {r9 : Option FieldType} {av : List AV} {Qd : zKt → zI → Option AV → Prop} (hy : plainName y.cls = true) (hlen : (lg_sl (av.map zv)).length ≤ nL)
    (body : ∀ (p : Program) (e : Env) (s : State) (m : MethodId) (args : Array Value) (below : List Frame) (meth : Method) (c : Code), zX p l e rm s m args below meth c y.cls cc nL r9 D b0 tA sa sv → (∀ x ∈ c.exceptionTable.toList, False) → zG p l e rm s m args below meth c nL D b0 tA sa 0 0 (zQD below D b0 tA sa K args s rm Qd) K 0 (zargs av nL) [] I) :
    zD l D b0 tA sa sv K y (.code y cc nL r9) rm av I Qd := by
  refine vx_ofW (cc := cc) (maxL := nL) (ret := r9) hy rfl ?_
  intro p e s m args below meth c s₁ B hml hnt hv
  obtain ⟨hargs, hinv, hav, hP, hK⟩ := hv
  have hts : ∀ w ∈ Cond.code y cc nL r9 :: zALL, w.before args s = true := atoms_spec B.pre
  have X : zX p l e rm s m args below meth c y.cls cc nL r9 D b0 tA sa sv := ⟨B.exec, B.bytes, hml, findClass_of_methodNamed B.named, fun w h => hts w (List.mem_cons_of_mem _ h), B.notSynchronized, hK, B.returns⟩
  have hl := lv_entry (av.map zv) (n := nL) hlen
  subst hargs
  rw [lg_entry_eq]
  exact body p e s m _ below meth c X hnt hinv trivial (zargs_ok av nL hav) _ ⟨_, hl, fun j v h => by have := zargs_in av nL 0 j v h; rwa [Nat.zero_add] at this⟩ s.heap [] hP va_S.rf
/-- .. the ends -/
theorem zr_vretD (X : zX p l e R s m args below meth c own cc nL none D b0 tA sa sv) {K0 : zKt} {Qd : zKt → zI → Option AV → Prop} (hex : kex K0 K) (hc : cells ≤ rm.cells) (hs9 : slots ≤ rm.slots) (hd : decode cc pc = .ok (.return_, 1)) (h : Qd K I none) :
    zG p l e R s m args below meth c nL D b0 tA sa cells slots (zQD below D b0 tA sa K0 args s rm Qd) K pc lv [] I := by
  intro hi hs hl ls hls H locs hP hS
  exact W.widen hc hs9 (vx_ret (W.vret X.1 X.2.1 X.2.2.2.2.2.2.2 (fun t ht hW => ⟨⟨K, I, none, rfl, h, hex, fun v hv => (by cases hv), hi, by rw [ht]; exact hP⟩, hS.F ht⟩) hS.2.2 hd X.2.2.2.2.2.1))
theorem zr_aretD {C : String} (X : zX p l e R s m args below meth c own cc nL (some (.object C)) D b0 tA sa sv) {K0 : zKt} {Qd : zKt → zI → Option AV → Prop} {a k : Nat} (hex : kex K0 K) (hc : cells ≤ rm.cells) (hs9 : slots ≤ rm.slots) (hd : decode cc pc = .ok (.areturn, 1)) (h : Qd K I (some (vr a k))) :
    zG p l e R s m args below meth c nL D b0 tA sa cells slots (zQD below D b0 tA sa K0 args s rm Qd) K pc lv [vr a k] I := by
  intro hi hs hl ls hls H locs hP hS
  exact W.widen hc hs9 (vx_ret (W.aret (v := .ref a) (rt := .object C) X.1 X.2.1 X.2.2.2.2.2.2.2 (Or.inl ⟨C, rfl⟩) (Or.inr ⟨a, rfl⟩) (fun t ht hW => ⟨⟨K, I, some (vr a k), rfl, h, hex, fun v hv => by cases hv; exact hs.1, hi, by rw [ht]; exact hP⟩, hS.F ht⟩) hS.2.2 hd X.2.2.2.2.2.1))
/-- .. what comes back -/
theorem zr_backD {mc ms : Nat} {ls : Array Slot} {st0 : List Value} {a : Array Value} {Qd : zKt → zI → Option AV → Prop} {locs : List Loc} {H : Heap}
    (hr : vx_Run p l e R s m args below meth c H locs cells slots mc ms (F0 m pc ls st0) (st.map zv) (zQd D b0 tA sa K Qd a) (fun _ _ _ => False) (fun q => b0 ≤ q)) (hS : va_S (fun q => b0 ≤ q) s.heap H locs)
    (hl : zokl sa K lv) (hls : zlv ls nL lv) (hs : zoks sa K st)
    (kk : ∀ (K' : zKt) (I' : zI) (r : Option AV), kex K K' → Qd K' I' r → zG p l e R s m args below meth c nL D b0 tA sa (cells + mc) (slots + ms) Q K' (pc + 3) lv (zpush r st) I') :
    W p l e R s m args below meth c H locs cells slots Q (F0 m pc ls st0) := by
  intro T hT XS
  rcases hr T hT XS with ⟨v, st₀, t, T', L, h0, X', hL, e1, e2, ⟨⟨K', I', r, hv, hq, hex, hok, hinv', hP'⟩, hF⟩, st9⟩ | ⟨q, st₀, t, T', L, E, ce, h0, X', hL, e1, e2, hx, hce, hcv, hcl, st9⟩
  · obtain ⟨k1, k2, k3⟩ := vx_keep h0 e1 hS (fun _ _ h => h) (fun _ h => h) hL hF
    have hv9 : v = r.map zv := Outcome.returned.inj hv
    subst hv9
    obtain ⟨t2, a1, b1⟩ := kk K' I' r hex hq hinv' (zpush_ok hok (hs.ex hex)) (hl.ex hex) ls hls T'.heap (locs ++ L) (by rw [e1]; exact hP') k3 T' rfl X'
    refine ⟨t2, st9 t2 ?_, b1⟩
    have e9 := zpush_map (r := r) (st := st)
    rw [e9]
    exact a1
  · exact hx.elim
theorem zr_callVD (X : zX p l e R s m args below meth c own cc nL ret D b0 tA sa sv) {index ci maxL n a : Nat} {y : MethodName} {bytes : ByteArray} {r9 : Option FieldType} {rm9 : Room} {As : List AV} {st9 : List AV} (F : zMv own index ci y bytes maxL r9 n)
    (hst : st9 = As.reverse ++ vr a ci :: st) (hn : As.length = n) (hR : rm9.frames + 1 ≤ R.frames ∧ 8 + (maxL + 11) + rm9.locals ≤ R.locals) (hf : cells + rm9.cells ≤ R.cells ∧ slots + rm9.slots ≤ R.slots) (hw : ((st.map zv).map fun v => v.category).sum ≤ 8) (hd : decode cc pc = .ok (.invokevirtual index, 3))
    (hM : zD l D b0 tA sa sv K y (.code y bytes maxL r9) rm9 (vr a ci :: As) I (fun K' I' r => kex K K' → zG p l e R s m args below meth c nL D b0 tA sa (cells + rm9.cells) (slots + rm9.slots) Q K' (pc + 3) lv (zpush r st) I')) :
    zG p l e R s m args below meth c nL D b0 tA sa cells slots Q K pc lv st9 I := by
  subst hst
  intro hi hs hl ls hls H locs hP hS
  obtain ⟨C, T, N, f1, f2, f3, f4, f5, f6, f7, f8⟩ := F
  have hs2 := zoks_app hs
  have hK := zok_k hs2.2.1 (zob_lt f2)
  have hav : zoks sa K (vr a ci :: As) := ⟨hs2.2.1, zoks_of (fun v hv => zoks_rev hs2.1 v (List.mem_reverse.mpr hv))⟩
  have hcell := (hP a _ (zEof_at hK)).1
  rw [show zcell tA ci a (K.2 a) (I a) = .inr (zci ci, zfl ci a (K.2 a) (I a)) by rw [zcell, if_pos f2]] at hcell
  have hrecv := va_recv (a := a) (q0 := 0) (ws := [(a, .inr (zci ci, zfl ci a (K.2 a) (I a)))]) (H := H) X.2.2.2.2.2.2.1.1 (fun k q h => by
    cases k with
    | zero => cases h; exact hcell
    | succ k => cases h) f1 rfl
  have hnL : ls.size = nL := by obtain ⟨l9, h9, -⟩ := hls; exact h9.1
  refine zr_backD (st := st) (lv := lv) (vx_runV (As := As.map zv) (b := a) (C := C) (Ts := zALL) (cc := cc) (nL := nL) (own := own) ⟨X.1, X.2.1, X.2.2.1, X.2.2.2.1, X.2.2.2.2.1⟩ hM (cwV n X.2.2.2.2.1 (zgoodV f4 f5 f6 f7 (zgood f8)) rfl rfl rfl f3 hR) ⟨zblind, hrecv, fun U hU hW => zpre X hi hav hP hS U hU hW⟩ rfl (by rw [List.length_map]; exact hn) hnL ?_ (lv_room hw) hd hf) hS hl hls hs2.2.2 (fun K' I' r hex h => h hex)
  show ((As.reverse ++ vr a ci :: st).map zv) = (As.map zv).reverse ++ .ref a :: st.map zv
  rw [List.map_append, List.map_reverse]
  rfl
theorem zr_callSD (X : zX p l e R s m args below meth c own cc nL ret D b0 tA sa sv) {index maxL n : Nat} {y : MethodName} {bytes : ByteArray} {r9 : Option FieldType} {rm9 : Room} {As : List AV} {st9 : List AV} (F : zMs own index y bytes maxL r9 n)
    (hst : st9 = As.reverse ++ st) (hn : As.length = n) (hR : rm9.frames + 1 ≤ R.frames ∧ 8 + (maxL + 11) + rm9.locals ≤ R.locals) (hf : cells + rm9.cells ≤ R.cells ∧ slots + rm9.slots ≤ R.slots) (hw : ((st.map zv).map fun v => v.category).sum ≤ 8) (hd : decode cc pc = .ok (.invokestatic index, 3))
    (hM : zD l D b0 tA sa sv K y (.code y bytes maxL r9) rm9 As I (fun K' I' r => kex K K' → zG p l e R s m args below meth c nL D b0 tA sa (cells + rm9.cells) (slots + rm9.slots) Q K' (pc + 3) lv (zpush r st) I')) :
    zG p l e R s m args below meth c nL D b0 tA sa cells slots Q K pc lv st9 I := by
  subst hst
  intro hi hs hl ls hls H locs hP hS
  obtain ⟨f3, f4, f5, f7, f8⟩ := F
  have hs2 := zoks_app hs
  have hav : zoks sa K As := zoks_of (fun v hv => zoks_rev hs2.1 v (List.mem_reverse.mpr hv))
  have hnL : ls.size = nL := by obtain ⟨l9, h9, -⟩ := hls; exact h9.1
  refine zr_backD (st := st) (lv := lv) (vx_runS (As := As.map zv) (Ts := zALL) (cc := cc) (nL := nL) (own := own) ⟨X.1, X.2.1, X.2.2.1, X.2.2.2.1, X.2.2.2.2.1⟩ hM (cwS n X.2.2.2.2.1 (zgoodS f4 f5 f7 (zgood f8)) rfl rfl rfl f3 hR) ⟨zblind, fun U hU hW => zpre X hi hav hP hS U hU hW⟩ rfl (by rw [List.length_map]; exact hn) hnL ?_ (lv_room hw) hd hf) hS hl hls hs2.2 (fun K' I' r hex h => h hex)
  show ((As.reverse ++ st).map zv) = (As.map zv).reverse ++ st.map zv
  rw [List.map_append, List.map_reverse]
/-- the tables' facts of a constructor with n arguments -/
def zIn (own : String) (index : Nat) (y : MethodName) (bytes : ByteArray) (maxL n : Nat) (host : String) : Prop := (y.cls ≠ "java/lang/invoke/MethodHandle" ∧ y.cls ≠ "java/lang/invoke/VarHandle" ∧ (parseMethodDescriptor y.desc).map (fun d => d.parameters.length) = some n) ∧ y.name = "<init>" ∧ (Cond.methodLink own index y ∈ zALL ∨ Cond.methodLinkNest own index y host ∈ lw_tbl) ∧ Cond.instanceMethod y ∈ zALL ∧ Cond.initialized y.cls ∈ zALL ∧ Cond.code y bytes maxL none ∈ zALL
theorem zr_initD (X : zX p l e R s m args below meth c own cc nL ret D b0 tA sa sv) {index maxL n a k : Nat} {y : MethodName} {bytes : ByteArray} {host : String} {rm9 : Room} {As : List AV} {st9 : List AV} (F : zIn own index y bytes maxL n host)
    (hst : st9 = As.reverse ++ vr a k :: st) (hn : As.length = n) (hR : rm9.frames + 1 ≤ R.frames ∧ 8 + (maxL + 11) + rm9.locals ≤ R.locals) (hf : cells + rm9.cells ≤ R.cells ∧ slots + rm9.slots ≤ R.slots) (hw : ((st.map zv).map fun v => v.category).sum ≤ 8) (hd : decode cc pc = .ok (.invokespecial index, 3))
    (hM : zD l D b0 tA sa sv K y (.code y bytes maxL none) rm9 (vr a k :: As) I (fun K' I' r => kex K K' → zG p l e R s m args below meth c nL D b0 tA sa (cells + rm9.cells) (slots + rm9.slots) Q K' (pc + 3) lv (zpush r st) I')) :
    zG p l e R s m args below meth c nL D b0 tA sa cells slots Q K pc lv st9 I := by
  subst hst
  intro hi hs hl ls hls H locs hP hS
  obtain ⟨f3, fn, fl, fi, f7, f8⟩ := F
  have hs2 := zoks_app hs
  have hav : zoks sa K (vr a k :: As) := ⟨hs2.2.1, zoks_of (fun v hv => zoks_rev hs2.1 v (List.mem_reverse.mpr hv))⟩
  have hnL : ls.size = nL := by obtain ⟨l9, h9, -⟩ := hls; exact h9.1
  have hts := X.2.2.2.2.1
  have hst : ((As.reverse ++ vr a k :: st).map zv) = (As.map zv).reverse ++ .ref a :: st.map zv := by
    rw [List.map_append, List.map_reverse]; rfl
  rcases fl with fl | fl
  · exact zr_backD (st := st) (lv := lv) (vx_runI (As := As.map zv) (b := a) (Ts := zALL) (cc := cc) (nL := nL) (own := own) ⟨X.1, X.2.1, X.2.2.1, X.2.2.2.1, hts⟩ hM (cwI n hts (zgood f8) rfl rfl rfl (hts _ f7) (hts _ fl) (hts _ fi) fn f3 hR) ⟨zblind, fun U hU hW => zpre X hi hav hP hS U hU hW⟩ rfl (by rw [List.length_map]; exact hn) hnL hst (lv_room hw) hd hf) hS hl hls hs2.2.2 (fun K' I' r hex h => h hex)
  · exact zr_backD (st := st) (lv := lv) (vx_runIN (As := As.map zv) (b := a) (Ts := zALL) (cc := cc) (nL := nL) (own := own) ⟨X.1, X.2.1, X.2.2.1, X.2.2.2.1, hts⟩ hM ⟨va_cnB n hts (zgood f8) rfl rfl rfl (X.2.2.2.2.2.2.1.2.2.1 _ fl rfl) (hts _ f7) f3 hR, fn, hts _ fi⟩ ⟨zblind, fun U hU hW => zpre X hi hav hP hS U hU hW⟩ rfl (by rw [List.length_map]; exact hn) hnL hst (lv_room hw) hd hf) hS hl hls hs2.2.2 (fun K' I' r hex h => h hex)
theorem zr_objInit (X : zX p l e R s m args below meth c own cc nL ret D b0 tA sa sv) {index a k : Nat} (h1 : Cond.methodLink own index Lib.objectInit ∈ zALL) (hR : 1 ≤ R.frames ∧ ((st.map zv).map fun v => v.category).sum + 12 ≤ R.locals) (hd : decode cc pc = .ok (.invokespecial index, 3))
    (kk : zG p l e R s m args below meth c nL D b0 tA sa cells slots Q K (pc + 3) lv st I) : zG p l e R s m args below meth c nL D b0 tA sa cells slots Q K pc lv (vr a k :: st) I := by
  intro hi hs hl ls hls H locs hP hS
  have hnL : ls.size = nL := by obtain ⟨l9, h9, -⟩ := hls; exact h9.1
  exact W.objInit X.1 X.2.1 X.2.2.2.1 (X.2.2.2.2.1 _ h1) (X.2.2.2.2.1 _ zoi_im) (X.2.2.2.2.1 _ zoi_co) rfl (hnL.trans X.2.2.1.symm) rfl hd hR.1 (by show 2 * 0 + _ + 12 ≤ _; omega) (kk hi hs.2 hl ls hls H locs hP hS)
/-- a reference is no null -/
theorem zr_ifnonnull (X : zX p l e R s m args below meth c own cc nL ret D b0 tA sa sv) {a k : Nat} {off : Int} {tgt : Nat} (hd : decode cc pc = .ok (.ifnonnull off, 3)) (ht : (pc : Int) + off = (tgt : Int)) (kk : zG p l e R s m args below meth c nL D b0 tA sa cells slots Q K tgt lv st I) : zG p l e R s m args below meth c nL D b0 tA sa cells slots Q K pc lv (vr a k :: st) I := by
  intro hi hs hl ls hls H locs hP hS
  exact lv_ifnonnull X.1 X.2.1 hd ht (kk hi hs.2 hl ls hls H locs hP hS)
/-- its room rounded up -/
theorem zr_more {k n : Nat} (h1 : cells ≤ k) (h2 : slots ≤ n) (kk : zG p l e R s m args below meth c nL D b0 tA sa k n Q K pc lv st I) : zG p l e R s m args below meth c nL D b0 tA sa cells slots Q K pc lv st I := by
  intro hi hs hl ls hls H locs hP hS T hT XS
  exact kk hi hs hl ls hls H locs hP hS T hT (stand_widen XS h1 h2)
end ZL
