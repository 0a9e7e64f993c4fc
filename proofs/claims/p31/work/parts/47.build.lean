/-! ===== building: cells are made one after the other ===== -/
abbrev zE : Type := Nat → Option va_E
theorem zhp.push {D : va_G} {b0 z : Nat} {E : zE} {H H1 : Heap} {e : va_E} (h : zhp D b0 E H) (hz : H.size = z) (hb : b0 ≤ z) (he : va_at D vwCl (z, e) H1) (o : ∀ q : Nat, q < z → H1[q]? = H[q]?) : zhp D b0 (zup E z e) H1 := by
  intro q f hq
  by_cases hqz : q = z
  · subst hqz
    rw [zup, if_pos rfl] at hq
    cases hq
    exact ⟨he, hb⟩
  · rw [zup, if_neg hqz] at hq
    have h9 : q < H.size := (h q f hq).1.lt
    exact ⟨(h q f hq).1.kept (o q (by omega)), (h q f hq).2⟩
/-- a walk while cells are made -/
def zB (p : Program) (l : Launch) (e : Env) (R : Room) (s : State) (m : MethodId) (args : Array Value) (below : List Frame) (meth : Method) (c : Code) (nL : Nat) (D : va_G) (b0 cells slots : Nat) (Q : State → Prop) (z : Nat) (E : zE) (pc : Nat) (lv : List (Option AV)) (st : List Value) : Prop :=
  ∀ ls : Array Slot, zlv ls nL lv → ∀ (H : Heap) (locs : List Loc), H.size = z → zhp D b0 E H → va_S (fun q => b0 ≤ q) s.heap H locs → W p l e R s m args below meth c H locs cells slots Q (F0 m pc ls st)
section ZBLD
variable {p : Program} {l : Launch} {e : Env} {R : Room} {s : State} {m : MethodId} {args : Array Value} {below : List Frame} {meth : Method} {c : Code} {cells slots : Nat} {Q : State → Prop}
variable {cc : ByteArray} {pc nL z : Nat} {D : va_G} {b0 : Nat} {tA : Nat → ClassId} {sa sv : Nat → Nat} {own : String} {ret : Option FieldType} {lv : List (Option AV)} {st : List Value} {E : zE}
theorem zb_aload0 (X : zX p l e R s m args below meth c own cc nL ret D b0 tA sa sv) {a k : Nat} {r : List (Option AV)} (hd : decode cc pc = .ok (.aload_n 0, 1)) (kk : zB p l e R s m args below meth c nL D b0 cells slots Q z E (pc + 1) (some (vr a k) :: r) (.ref a :: st)) : zB p l e R s m args below meth c nL D b0 cells slots Q z E pc (some (vr a k) :: r) st :=
  fun ls hls H locs hz hP hS => lv_aload_n X.1 X.2.1 hd rfl (zlv_at (v := vr a k) hls rfl) (kk ls hls H locs hz hP hS)
theorem zb_iload1 (X : zX p l e R s m args below meth c own cc nL ret D b0 tA sa sv) {x : Int32} {a0 : Option AV} {r : List (Option AV)} (hd : decode cc pc = .ok (.iload_n 1, 1)) (kk : zB p l e R s m args below meth c nL D b0 cells slots Q z E (pc + 1) (a0 :: some (vi x) :: r) (.int x :: st)) : zB p l e R s m args below meth c nL D b0 cells slots Q z E pc (a0 :: some (vi x) :: r) st :=
  fun ls hls H locs hz hP hS => lv_iload_n X.1 X.2.1 hd rfl (zlv_at (v := vi x) hls rfl) (kk ls hls H locs hz hP hS)
theorem zb_iconst (X : zX p l e R s m args below meth c own cc nL ret D b0 tA sa sv) {n : Int} {v : Int32} (hd : decode cc pc = .ok (.iconst n, 1)) (hv : Int32.ofInt n = v) (kk : zB p l e R s m args below meth c nL D b0 cells slots Q z E (pc + 1) lv (.int v :: st)) : zB p l e R s m args below meth c nL D b0 cells slots Q z E pc lv st :=
  fun ls hls H locs hz hP hS => lv_iconst X.1 X.2.1 hd hv (kk ls hls H locs hz hP hS)
theorem zb_bipush (X : zX p l e R s m args below meth c own cc nL ret D b0 tA sa sv) {n : Int} {v : Int32} (hd : decode cc pc = .ok (.bipush n, 2)) (hv : (Int8.ofInt n).toInt32 = v) (kk : zB p l e R s m args below meth c nL D b0 cells slots Q z E (pc + 2) lv (.int v :: st)) : zB p l e R s m args below meth c nL D b0 cells slots Q z E pc lv st :=
  fun ls hls H locs hz hP hS => lv_bipush X.1 X.2.1 hd hv (kk ls hls H locs hz hP hS)
theorem zb_sipush (X : zX p l e R s m args below meth c own cc nL ret D b0 tA sa sv) {n : Int} {v : Int32} (hd : decode cc pc = .ok (.sipush n, 3)) (hv : (Int16.ofInt n).toInt32 = v) (kk : zB p l e R s m args below meth c nL D b0 cells slots Q z E (pc + 3) lv (.int v :: st)) : zB p l e R s m args below meth c nL D b0 cells slots Q z E pc lv st :=
  fun ls hls H locs hz hP hS => lv_sipush X.1 X.2.1 hd hv (kk ls hls H locs hz hP hS)
theorem zb_dup (X : zX p l e R s m args below meth c own cc nL ret D b0 tA sa sv) {a : Nat} (hd : decode cc pc = .ok (.dup, 1)) (kk : zB p l e R s m args below meth c nL D b0 cells slots Q z E (pc + 1) lv (.ref a :: .ref a :: st)) : zB p l e R s m args below meth c nL D b0 cells slots Q z E pc lv (.ref a :: st) :=
  fun ls hls H locs hz hP hS => lv_dup X.1 X.2.1 hd rfl (kk ls hls H locs hz hP hS)
theorem zb_istoreN (X : zX p l e R s m args below meth c own cc nL ret D b0 tA sa sv) {x : Int32} {i : Nat} {k9 : Fin 4} (hi9 : (k9 : Nat) = i) (hn : i < nL) (hz9 : ∀ k : Nat, k + 1 = i → ∀ w, lv[k]? = some w → z1 w = true) (hd : decode cc pc = .ok (.istore_n k9, 1)) (kk : zB p l e R s m args below meth c nL D b0 cells slots Q z E (pc + 1) (lv.set i (some (vi x))) st) : zB p l e R s m args below meth c nL D b0 cells slots Q z E pc lv (.int x :: st) := by
  intro ls hls H locs hz hP hS
  obtain ⟨l9, h1, h2⟩ := hls
  exact lv_istore_n X.1 X.2.1 hd hi9 h1 hn rfl (fun ls1 h9 => kk ls1 (zlv_store (v := vi x) h2 hz9 h9) H locs hz hP hS)
theorem zb_istore (X : zX p l e R s m args below meth c own cc nL ret D b0 tA sa sv) {x : Int32} {i : Nat} (hn : i < nL) (hz9 : ∀ k : Nat, k + 1 = i → ∀ w, lv[k]? = some w → z1 w = true) (hd : decode cc pc = .ok (.istore i, 2)) (kk : zB p l e R s m args below meth c nL D b0 cells slots Q z E (pc + 2) (lv.set i (some (vi x))) st) : zB p l e R s m args below meth c nL D b0 cells slots Q z E pc lv (.int x :: st) := by
  intro ls hls H locs hz hP hS
  obtain ⟨l9, h1, h2⟩ := hls
  exact lv_istore X.1 X.2.1 hd h1 hn rfl (fun ls1 h9 => kk ls1 (zlv_store (v := vi x) h2 hz9 h9) H locs hz hP hS)
theorem zb_astoreN (X : zX p l e R s m args below meth c own cc nL ret D b0 tA sa sv) {a k i : Nat} {k9 : Fin 4} (hi9 : (k9 : Nat) = i) (hn : i < nL) (hz9 : ∀ k : Nat, k + 1 = i → ∀ w, lv[k]? = some w → z1 w = true) (hd : decode cc pc = .ok (.astore_n k9, 1)) (kk : zB p l e R s m args below meth c nL D b0 cells slots Q z E (pc + 1) (lv.set i (some (vr a k))) st) : zB p l e R s m args below meth c nL D b0 cells slots Q z E pc lv (.ref a :: st) := by
  intro ls hls H locs hz hP hS
  obtain ⟨l9, h1, h2⟩ := hls
  exact lv_astore_n X.1 X.2.1 hd hi9 h1 hn rfl (fun ls1 h9 => kk ls1 (zlv_store (v := vr a k) h2 hz9 h9) H locs hz hP hS)
theorem zb_iinc1 (X : zX p l e R s m args below meth c own cc nL ret D b0 tA sa sv) {x v : Int32} {a0 : Option AV} {r : List (Option AV)} (hx : x + Int32.ofInt 1 = v) (hn : 1 < nL) (hz9 : z1 a0 = true) (hd : decode cc pc = .ok (.iinc 1 1, 3)) (kk : zB p l e R s m args below meth c nL D b0 cells slots Q z E (pc + 3) (a0 :: some (vi v) :: r) st) : zB p l e R s m args below meth c nL D b0 cells slots Q z E pc (a0 :: some (vi x) :: r) st := by
  intro ls hls H locs hz hP hS
  obtain ⟨l9, h1, h2⟩ := hls
  obtain ⟨k9, hk9⟩ := zlv_iinc (ls := ls) (i := 1) h2 rfl
  exact lv_iinc X.1 X.2.1 hd h1 hk9 hx hn rfl (fun ls1 h9 => kk ls1 (zlv_store (v := vi v) h2 (fun k9 h9 w9 hw9 => by cases (Nat.succ.inj h9 : k9 = 0); cases hw9; exact hz9) h9) H locs hz hP hS)
theorem zb_icmp_ge (X : zX p l e R s m args below meth c own cc nL ret D b0 tA sa sv) {x y : Int32} {off : Int} {tgt : Nat} (hd : decode cc pc = .ok (.if_icmp .ge off, 3)) (ht : (pc : Int) + off = (tgt : Int)) (kt : y ≤ x → zB p l e R s m args below meth c nL D b0 cells slots Q z E tgt lv st) (kf : ¬ y ≤ x → zB p l e R s m args below meth c nL D b0 cells slots Q z E (pc + 3) lv st) : zB p l e R s m args below meth c nL D b0 cells slots Q z E pc lv (.int y :: .int x :: st) :=
  fun ls hls H locs hz hP hS => lv_icmp_ge X.1 X.2.1 hd ht (fun h => kt h ls hls H locs hz hP hS) (fun h => kf h ls hls H locs hz hP hS)
theorem zb_goto (X : zX p l e R s m args below meth c own cc nL ret D b0 tA sa sv) {off : Int} {tgt : Nat} (hd : decode cc pc = .ok (.goto off, 3)) (ht : (pc : Int) + off = (tgt : Int)) (kk : zB p l e R s m args below meth c nL D b0 cells slots Q z E tgt lv st) : zB p l e R s m args below meth c nL D b0 cells slots Q z E pc lv st :=
  fun ls hls H locs hz hP hS => lv_goto X.1 X.2.1 hd ht (kk ls hls H locs hz hP hS)
theorem zb_grow {H H1 : Heap} {locs : List Loc} (hz : H.size = z) (z1 : H1.size = z + 1) (o1 : ∀ q : Nat, q < z → H1[q]? = H[q]?) (hS : va_S (fun q => b0 ≤ q) s.heap H locs) : va_S (fun q => b0 ≤ q) s.heap H1 locs :=
  ⟨Nat.le_trans hS.1 (by omega), fun x h1 h2 => (o1 x (by have := hS.1; omega)).trans (hS.2.1 x h1 h2), hS.2.2⟩
theorem zb_new (X : zX p l e R s m args below meth c own cc nL ret D b0 tA sa sv) {index ci N : Nat} {C : String} {T : u_T} {ty : Nat → FieldType} {fs : List Value} (hin : ∀ w ∈ u_ws C T N, w ∈ zALL) (hc : vwCl[ci]? = some (C, T, N)) (hty : ∀ k, k < N → parseFieldDescriptor (T k).2.2.1 = some (ty k)) (hcl : Cond.classLink own index C ∈ zALL) (hinst : Cond.instantiable C N ∈ zALL) (hini : Cond.initialized C ∈ zALL) (hfs : ∀ j, j < N → defaultValue (ty j) = vp_V fs j) (hf : cells + 1 ≤ R.cells ∧ slots + N ≤ R.slots) (hd : decode cc pc = .ok (.new index, 3))
    (kk : ∀ E1 : zE, E1 z = some (.inr (ci, fs)) → (∀ q, q ≠ z → E1 q = E q) → zB p l e R s m args below meth c nL D b0 (cells + 1) (slots + N) Q (z + 1) E1 (pc + 3) lv (.ref z :: st)) : zB p l e R s m args below meth c nL D b0 cells slots Q z E pc lv st := by
  intro ls hls H locs hz hP hS
  have hKn := X.2.2.2.2.2.2.1.1.1 ci _ hc
  have hb : b0 ≤ z := by have := X.2.2.2.2.2.2.1.2.2.2.1; have := hS.1; omega
  subst hz
  refine W.newcK X.1 X.2.1 X.2.2.2.1 (X.2.2.2.2.1 _ hcl) (X.2.2.2.2.1 _ hinst) (X.2.2.2.2.1 _ hini) rfl hd hf.1 hf.2 hKn.2.1 rfl fun H1 kC hkC e1 z1 o1 => ?_
  exact kk (zup E H.size (.inr (ci, fs))) (if_pos rfl) (fun q hq => if_neg hq) ls hls H1 locs z1 (hP.push rfl hb ⟨_, hc, (u_born ty X.2.2.2.2.1 hin hKn hkC e1 hty).to hfs⟩ o1) (zb_grow rfl z1 o1 hS)
theorem zb_newa (X : zX p l e R s m args below meth c own cc nL ret D b0 tA sa sv) {atype : ArrayType} {n : Int32} {N k : Nat} {w : vp_A} (harr : Cond.arrayClass (newarray.typeOf atype) ∈ zALL) (ha : ∀ cA : ClassId, vp_cell cA w = arrV cA N (fun _ => defaultValue (newarray.typeOf atype))) (hk : s.vm.findClass ("[" ++ (newarray.typeOf atype).toString) = some (tA k)) (hn : ¬ n < 0) (hN : n.toNatClampNeg = N) (hbytes : N * componentBytes (newarray.typeOf atype) ≤ 536870912) (hf : cells + 1 ≤ R.cells ∧ slots + N ≤ R.slots) (hd : decode cc pc = .ok (.newarray atype, 2))
    (kk : ∀ E1 : zE, E1 z = some (.inl (tA k, w)) → (∀ q, q ≠ z → E1 q = E q) → zB p l e R s m args below meth c nL D b0 (cells + 1) (slots + N) Q (z + 1) E1 (pc + 2) lv (.ref z :: st)) : zB p l e R s m args below meth c nL D b0 cells slots Q z E pc lv (.int n :: st) := by
  intro ls hls H locs hz hP hS
  have hb : b0 ≤ z := by have := X.2.2.2.2.2.2.1.2.2.2.1; have := hS.1; omega
  refine va_newaK X.1 X.2.1 (X.2.2.2.2.1 _ harr) rfl hd rfl hn hN hbytes hf.1 hf.2 hz fun H1 cA e1 z1 o1 hAr hNm => ?_
  have hcA : tA k = cA := Option.some.inj (hk.symm.trans hNm)
  subst hcA
  exact kk (zup E z (.inl (tA k, w))) (if_pos rfl) (fun q hq => if_neg hq) ls hls H1 locs z1 (hP.push hz hb (by show H1[z]? = some (vp_cell _ _); rw [ha]; exact e1) o1) (zb_grow hz z1 o1 hS)
/-- what an array of references is made of -/
def zRA (A : ClassId) (C : String) (U : State) : Prop := ∃ (kA : Class) (comp : ClassId), U.vm.classes[A]? = some kA ∧ kA.kind = .array comp (.object C) ∧ U.vm.findClass C = some comp
theorem zb_anew (X : zX p l e R s m args below meth c own cc nL ret D b0 tA sa sv) {index : Nat} {C : String} {n : Int32} {N k : Nat} (hcl : Cond.classLink own index C ∈ zALL) (hover : zAO (.object C) s) (hk : s.vm.findClass ("[" ++ (FieldType.object C).toString) = some (tA k)) (hn : ¬ n < 0) (hN : n.toNatClampNeg = N) (hbytes : N * 4 ≤ 536870912) (hf : cells + 1 ≤ R.cells ∧ slots + N ≤ R.slots) (hd : decode cc pc = .ok (.anewarray index, 3))
    (kk : zRA (tA k) C s → ∀ E1 : zE, E1 z = some (.inl (tA k, N, .inr (.inr (.inr (.inr (fun _ => none)))))) → (∀ q, q ≠ z → E1 q = E q) → zB p l e R s m args below meth c nL D b0 (cells + 1) (slots + N) Q (z + 1) E1 (pc + 3) lv (.ref z :: st)) : zB p l e R s m args below meth c nL D b0 cells slots Q z E pc lv (.int n :: st) := by
  intro ls hls H locs hz hP hS
  have hb : b0 ≤ z := by have := X.2.2.2.2.2.2.1.2.2.2.1; have := hS.1; omega
  subst hN
  subst hz
  refine W.anew X.1 X.2.1 X.2.2.2.1 (X.2.2.2.2.1 _ hcl) hover rfl hd rfl hn hbytes hf.1 hf.2 fun cA kA comp f1 f2 f3 f4 => ?_
  have hcA : tA k = cA := Option.some.inj (hk.symm.trans f1)
  subst hcA
  generalize hH1 : H.push ({ cls := tA k, slots := Array.replicate n.toNatClampNeg .null, vm := .none } : Cell) = H1
  have z1 : H1.size = H.size + 1 := by rw [← hH1, Array.size_push]
  have e1 : H1[H.size]? = some (arrV (tA k) n.toNatClampNeg (fun _ => .null)) := by rw [← hH1, Array.getElem?_push_size, ← arrV_new]
  have o1 : ∀ q : Nat, q < H.size → H1[q]? = H[q]? := fun q hq => by rw [← hH1, Array.getElem?_push, if_neg (Nat.ne_of_lt hq)]
  exact kk ⟨kA, comp, f2, f3, f4⟩ (zup E H.size _) (if_pos rfl) (fun q hq => if_neg hq) ls hls H1 locs z1 (hP.push rfl hb e1 o1) (zb_grow rfl z1 o1 hS)
end ZBLD
