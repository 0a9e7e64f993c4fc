/-! ===== building: fields, elements, constructors' calls ===== -/
/-- the tables' facts of a field of the class's own -/
def zFw (own : String) (index ci j : Nat) (C : String) (T : u_T) (N : Nat) (ty : Nat → FieldType) : Prop := (∀ w ∈ u_ws C T N, w ∈ zALL) ∧ vwCl[ci]? = some (C, T, N) ∧ (j < N ∧ (T j).1 = C) ∧ (∀ k, k < N → parseFieldDescriptor (T k).2.2.1 = some (ty k)) ∧ (∀ a, a < N → ∀ b, b < N → a ≠ b → (T a).2.1 ≠ (T b).2.1) ∧ Cond.fieldLink own index C (T j).2.1 (T j).2.2.1 ∈ zALL
section ZBLD
variable {p : Program} {l : Launch} {e : Env} {R : Room} {s : State} {m : MethodId} {args : Array Value} {below : List Frame} {meth : Method} {c : Code} {cells slots : Nat} {Q : State → Prop}
variable {cc : ByteArray} {pc nL z : Nat} {D : va_G} {b0 : Nat} {tA : Nat → ClassId} {sa sv : Nat → Nat} {own : String} {ret : Option FieldType} {lv : List (Option AV)} {st : List Value} {E : zE}
theorem zb_put (X : zX p l e R s m args below meth c own cc nL ret D b0 tA sa sv) {index ci j a N : Nat} {v : Value} {fs : List Value} {C : String} {T : u_T} {ty : Nat → FieldType} (F : zFw own index ci j C T N ty)
    (hfin : (T j).2.2.2 = false ∨ ((T j).2.2.2 = true ∧ meth.name = "<init>" ∧ C = own)) (hn : narrow (ty j) v = v) (hfit : fits (ty j) v = true) (hl : j < fs.length) (he : E a = some (.inr (ci, fs))) (hd : decode cc pc = .ok (.putfield index, 3))
    (kk : ∀ E1 : zE, E1 a = some (.inr (ci, fs.set j v)) → (∀ q, q ≠ a → E1 q = E q) → zB p l e R s m args below meth c nL D b0 cells slots Q z E1 (pc + 3) lv st) : zB p l e R s m args below meth c nL D b0 cells slots Q z E pc lv (v :: .ref a :: st) := by
  intro ls hls H locs hz hP hS
  obtain ⟨hin, hc, ⟨hj, hC⟩, hty, hnm, hlk⟩ := F
  have hts := X.2.2.2.2.1
  have hK := X.2.2.2.2.2.2.1.1
  have hap := va_apart (own := own) hts hin ty hty hnm hK hc
  obtain ⟨⟨r, h1, cell, q1, q2, q3, q4⟩, hba⟩ := hP a _ he
  have hr : r = (C, T, N) := Option.some.inj (h1.symm.trans hc)
  subst hr
  obtain ⟨hSl, hfc, kC, hkC, hkind⟩ := hK.1 ci _ hc
  obtain ⟨cf, kf, fi, f, hi, hsl⟩ := hSl j hj
  have hlay := hts _ (hin _ (u_in_lay hj))
  have hst := (u_facts hfc hkC (u_lays hts hin hj) hi).1
  have hd9 := hty j hj
  have go : ∀ (H' : Heap) (locs' : List Loc), H'[a]? = some (cell.setSlot (D.2 ci j) v) → H'.size = H.size → (∀ q : Nat, q ≠ a → H'[q]? = H[q]?) → va_S (fun q => b0 ≤ q) s.heap H' locs' → W p l e R s m args below meth c H' locs' cells slots Q (F0 m (pc + 3) ls st) := fun H' locs' e1 e2 e3 hS' =>
    kk (zup E a (.inr (ci, fs.set j v))) (if_pos rfl) (fun q hq => if_neg hq) ls hls H' locs' (e2.trans hz) (hP.set hba ⟨_, hc, t_OB.to (V := updV (vp_V fs) j v) ⟨_, e1, q2, q3, t_set q4 hap hj v⟩ (fun j9 _ => vp_updV_set hl v j9)⟩ e3) hS'
  rcases hfin with hfin | ⟨hfin, hin2, hown⟩
  · unfold u_lay at hlay
    rw [if_neg (by rw [hfin]; decide)] at hlay
    have h6 := u_store hfc hkC hkind hlay hi hd9 hn hfit
    rw [hC] at hi
    refine W.putK X.1 X.2.1 (f := f) ⟨X.2.2.2.1, hts _ hlk, ⟨_, _, _, hi⟩, hst⟩ (by rw [q2]; exact h6) q1 q3 (by rw [hsl]; exact k2_hasslot (q4 j hj)) rfl rfl hd fun H' e1 e2 e3 => ?_
    rw [hsl] at e1 ⊢
    exact go H' _ e1 e2 e3 (hS.put e2 e3 hba)
  · unfold u_lay at hlay
    rw [if_pos hfin] at hlay
    have hcf : m.cls = cf := by
      obtain ⟨_, _, c', _, _, _, -, -, hf', -, -, -, hown2, -⟩ := Cond.laysFinal_spec hlay
      have e1 : c' = cf := by have := hi.symm.trans hf'; simp at this; exact this.1.symm
      rw [hC, hown] at hown2
      rw [← e1]; exact Option.some.inj (X.2.2.2.1.symm.trans hown2)
    have h6 := u_fits hfc hkC hkind (Or.inr hlay) hi hd9 hn hfit
    rw [hC] at hi
    refine W.putFinK X.1 X.2.1 X.2.2.2.1 (hts _ hlk) hi hst hcf hin2 (by rw [q2]; exact h6) q1 q3 (by rw [hsl]; exact k2_hasslot (q4 j hj)) rfl rfl hd fun H' e1 e2 e3 => ?_
    rw [hsl] at e1 ⊢
    exact go H' _ e1 e2 e3 (hS.put e2 e3 hba)
theorem zb_get (X : zX p l e R s m args below meth c own cc nL ret D b0 tA sa sv) {index ci j a N : Nat} {v : Value} {fs : List Value} {C : String} {T : u_T} {ty : Nat → FieldType} (F : zFw own index ci j C T N ty) (he : E a = some (.inr (ci, fs))) (hv : fs[j]? = some v) (hd : decode cc pc = .ok (.getfield index, 3))
    (kk : zB p l e R s m args below meth c nL D b0 cells slots Q z E (pc + 3) lv (v :: st)) : zB p l e R s m args below meth c nL D b0 cells slots Q z E pc lv (.ref a :: st) := by
  intro ls hls H locs hz hP hS
  obtain ⟨hin, hc, ⟨hj, hC⟩, hty, hnm, hlk⟩ := F
  refine va_get (D := D) (cl := vwCl) (ws := [(a, .inr (ci, fs))]) (ref := C) X.1 X.2.1 X.2.2.2.2.1 hin X.2.2.2.1 X.2.2.2.2.2.2.1.1 (fun k q h => ?_) 0 rfl hc j hj (X.2.2.2.2.1 _ hlk) (fun x h => by rw [← hC]; rw [hC] at h ⊢; exact h) hv hd (kk ls hls H locs hz hP hS)
  cases k with
  | zero => cases h; exact (hP a _ he).1
  | succ k => cases h
theorem zb_alen (X : zX p l e R s m args below meth c own cc nL ret D b0 tA sa sv) {a k n : Nat} {ty : FieldType} {f : Nat → Option Nat} (hA : ArrOfT s (tA k) ty) (he : E a = some (.inl (tA k, n, .inr (.inr (.inr (.inr f)))))) (hd : decode cc pc = .ok (.arraylength, 1))
    (kk : zB p l e R s m args below meth c nL D b0 cells slots Q z E (pc + 1) lv (.int (nI n) :: st)) : zB p l e R s m args below meth c nL D b0 cells slots Q z E pc lv (.ref a :: st) := by
  intro ls hls H locs hz hP hS
  exact W.alen (n := Int32.ofNat n) X.1 X.2.1 (hP a _ he).1 (hA n (fun j => va_rf (f j))) (by rw [vp_cell_q, arrV_size] <;> rfl) rfl rfl hd (kk ls hls H locs hz hP hS)
theorem zb_iast (X : zX p l e R s m args below meth c own cc nL ret D b0 tA sa sv) {a k n : Nat} {i x : Int32} {f : Nat → Int32} (hA : ArrOfT s (tA k) .int) (he : E a = some (.inl (tA k, n, .inl f))) (hin : vp_in i n) (hd : decode cc pc = .ok (.iastore, 1))
    (kk : ∀ E1 : zE, E1 a = some (.inl (tA k, n, .inl (upd f i.toNatClampNeg x))) → (∀ q, q ≠ a → E1 q = E q) → zB p l e R s m args below meth c nL D b0 cells slots Q z E1 (pc + 1) lv st) : zB p l e R s m args below meth c nL D b0 cells slots Q z E pc lv (.int x :: .int i :: .ref a :: st) := by
  intro ls hls H locs hz hP hS
  refine W.iast X.1 X.2.1 ((hP a _ he).1) (hA n (fun j => .int (f j))) (fun q => by cases q) (by show ¬ (i < 0 ∨ (arrV _ _ _).slots.size ≤ _); rw [arrV_size]; exact hin) rfl rfl hd fun H1 e1 z1 oq => ?_
  refine kk (zup E a (.inl (tA k, n, .inl (upd f i.toNatClampNeg x)))) (if_pos rfl) (fun q hq => if_neg hq) ls hls H1 _ (z1.trans hz) (hP.set (hP a _ he).2 ?_ oq) (hS.put z1 oq (hP a _ he).2)
  show H1[a]? = some (vp_cell _ _)
  rw [e1, vp_cell_i, vp_cell_i, arrV_store]
  congr 2
  funext q
  by_cases h : q = i.toNatClampNeg
  · subst h; simp [updV, upd]
  · simp [updV, upd, h]
theorem zb_aast (X : zX p l e R s m args below meth c own cc nL ret D b0 tA sa sv) {a k n v ci N : Nat} {i : Int32} {f : Nat → Option Nat} {vs : List Value} {C : String} {T : u_T} (hA : zRA (tA k) C s) (ha : E a = some (.inl (tA k, n, .inr (.inr (.inr (.inr f)))))) (hv : E v = some (.inr (ci, vs))) (hc : vwCl[ci]? = some (C, T, N)) (hin : vp_in i n) (hd : decode cc pc = .ok (.aastore, 1))
    (kk : ∀ E1 : zE, E1 a = some (.inl (tA k, n, .inr (.inr (.inr (.inr (va_up f i.toNatClampNeg (some v))))))) → (∀ q, q ≠ a → E1 q = E q) → zB p l e R s m args below meth c nL D b0 cells slots Q z E1 (pc + 1) lv st) : zB p l e R s m args below meth c nL D b0 cells slots Q z E pc lv (.ref v :: .int i :: .ref a :: st) := by
  intro ls hls H locs hz hP hS
  have hlt : i.toNatClampNeg < n := Nat.not_le.mp fun q => hin (Or.inr q)
  have h0 : ¬ i < 0 := fun q => hin (Or.inl q)
  obtain ⟨⟨r', hr', cellV, g1, g2, g3, -⟩, -⟩ := hP v _ hv
  have hcls := (X.2.2.2.2.2.2.1.1.1 ci _ hc).2
  obtain ⟨kA, comp, k1, k2, k3⟩ := hA
  have hcomp : comp = D.1 ci := Option.some.inj (k3.symm.trans hcls.1)
  subst hcomp
  obtain ⟨kC, hkC, -⟩ := hcls.2
  have hPa := (hP a _ ha).1
  refine W.aast X.1 X.2.1 hPa (fun q h => by cases h) (fun h => by cases h) k1 k2 rfl hkC ⟨h0, by show _ < (arrV _ _ _).slots.size; rw [arrV_size]; exact hlt⟩ g1 (fun q h => by rw [g3] at h; cases h) (by rw [g2]; exact hkC) (by rw [g2]; exact va_assign hcls) rfl rfl hd fun H1 e z1 oq => ?_
  refine kk (zup E a (.inl (tA k, n, .inr (.inr (.inr (.inr (va_up f i.toNatClampNeg (some v)))))))) (if_pos rfl) (fun q hq => if_neg hq) ls hls H1 _ (z1.trans hz) (hP.set (hP a _ ha).2 ?_ oq) (hS.put z1 oq (hP a _ ha).2)
  show H1[a]? = some (vp_cell _ _)
  rw [e]
  rw [vp_cell_q, vp_cell_q, arrV_store]
  congr 2
  funext q
  by_cases hq : q = i.toNatClampNeg
  · subst hq
    simp [updV, va_up, va_rf]
  · simp [updV, va_up, hq]
theorem zb_objInit (X : zX p l e R s m args below meth c own cc nL ret D b0 tA sa sv) {index a : Nat} (h1 : Cond.methodLink own index Lib.objectInit ∈ zALL) (h2 : Cond.instanceMethod Lib.objectInit ∈ zALL) (h3 : Cond.code Lib.objectInit ⟨#[0xb1]⟩ 1 none ∈ zALL) (hR : 1 ≤ R.frames ∧ (st.map fun v => v.category).sum + 12 ≤ R.locals) (hd : decode cc pc = .ok (.invokespecial index, 3))
    (kk : zB p l e R s m args below meth c nL D b0 cells slots Q z E (pc + 3) lv st) : zB p l e R s m args below meth c nL D b0 cells slots Q z E pc lv (.ref a :: st) := by
  intro ls hls H locs hz hP hS
  have hnL : ls.size = nL := by obtain ⟨l9, h9, -⟩ := hls; exact h9.1
  exact W.objInit X.1 X.2.1 X.2.2.2.1 (X.2.2.2.2.1 _ h1) (X.2.2.2.2.1 _ h2) (X.2.2.2.2.1 _ h3) rfl (hnL.trans X.2.2.1.symm) rfl hd hR.1 (by show 2 * 0 + _ + 12 ≤ _; omega) (kk ls hls H locs hz hP hS)
end ZBLD
/-- a constructor's contract: called on a over E with z cells, it leaves n and an E' with Qe -/
def zCI (l : Launch) (D : va_G) (b0 : Nat) (tA : Nat → ClassId) (sa sv : Nat → Nat) (y : MethodName) (cc : ByteArray) (nL : Nat) (rm : Room) (a z : Nat) (E : zE) (n : Nat) (Qe : zE → Prop) : Prop :=
  Met l y (.code y cc nL none :: zALL) rm (fun v U => v = #[Value.ref a] ∧ U.heap.size = z ∧ zhp D b0 E U.heap ∧ zK D b0 tA sa sv l U ∧ zTa tA U) (fun _ st oc t => oc = .returned none ∧ (∃ E' : zE, t.heap.size = n ∧ zhp D b0 E' t.heap ∧ Qe E') ∧ va_F (fun q => b0 ≤ q) st t) rm.cells rm.slots (fun q => b0 ≤ q)
abbrev zQI (below : List Frame) (D : va_G) (b0 : Nat) (args : Array Value) (s : State) (rm : Room) (n : Nat) (Qe : zE → Prop) : State → Prop :=
  MQ below (fun _ st oc t => oc = .returned none ∧ (∃ E' : zE, t.heap.size = n ∧ zhp D b0 E' t.heap ∧ Qe E') ∧ va_F (fun q => b0 ≤ q) st t) args s rm.cells rm.slots (fun q => b0 ≤ q)
section ZBLD
variable {p : Program} {l : Launch} {e : Env} {R : Room} {s : State} {m : MethodId} {args : Array Value} {below : List Frame} {meth : Method} {c : Code} {cells slots : Nat} {Q : State → Prop}
variable {cc : ByteArray} {pc nL z : Nat} {D : va_G} {b0 : Nat} {tA : Nat → ClassId} {sa sv : Nat → Nat} {own : String} {ret : Option FieldType} {lv : List (Option AV)} {st : List Value} {E : zE}
theorem zCI_of {y : MethodName} {rm : Room} {a n : Nat} {Qe : zE → Prop} (hy : plainName y.cls = true) (hlen : 1 ≤ nL) (hini : y.name = "<init>")
    (body : ∀ (p : Program) (e : Env) (s : State) (m : MethodId) (args : Array Value) (below : List Frame) (meth : Method) (c : Code), zX p l e rm s m args below meth c y.cls cc nL none D b0 tA sa sv → zTa tA s → meth.name = "<init>" → zB p l e rm s m args below meth c nL D b0 0 0 (zQI below D b0 args s rm n Qe) z E 0 (some (vr a 0) :: List.replicate (nL - 1) none) []) :
    zCI l D b0 tA sa sv y cc nL rm a z E n Qe := by
  refine Met.ofW (cc := cc) (maxL := nL) (ret := none) hy rfl ?_
  intro p e s m args below meth c s₁ B hml hv
  obtain ⟨hargs, hz, hP, hK, hT⟩ := hv
  have hts : ∀ w ∈ Cond.code y cc nL none :: zALL, w.before args s = true := atoms_spec B.pre
  have X : zX p l e rm s m args below meth c y.cls cc nL none D b0 tA sa sv := ⟨B.exec, B.bytes, hml, findClass_of_methodNamed B.named, fun w h => hts w (List.mem_cons_of_mem _ h), B.notSynchronized, hK, B.returns⟩
  have hl := lv_entry ([.ref a] : List Value) (n := nL) hlen
  have hin2 : meth.name = "<init>" := (name_of_methodNamed B.named B.method).1.trans hini
  subst hargs
  rw [lg_entry_eq]
  refine body p e s m _ below meth c X hT hin2 _ ⟨_, hl, fun j v h => ?_⟩ s.heap [] hz hP va_S.rf
  cases j with
  | zero => cases h; exact List.mem_cons_self
  | succ j =>
    rw [List.getElem?_cons_succ] at h
    have := List.eq_of_mem_replicate (List.mem_of_getElem? h)
    cases this
theorem zb_ret (X : zX p l e R s m args below meth c own cc nL ret D b0 tA sa sv) {rm : Room} {n : Nat} {Qe : zE → Prop} (hr : ret = none) (hc : cells ≤ rm.cells) (hs9 : slots ≤ rm.slots) (hn : z = n) (hd : decode cc pc = .ok (.return_, 1)) (h : Qe E) : zB p l e R s m args below meth c nL D b0 cells slots (zQI below D b0 args s rm n Qe) z E pc lv [] := by
  intro ls hls H locs hz hP hS
  exact W.widen hc hs9 (W.vret X.1 X.2.1 (X.2.2.2.2.2.2.2.trans hr) (fun t ht hW => ⟨rfl, ⟨E, by rw [ht]; exact hz.trans hn, by rw [ht]; exact hP, h⟩, hS.F ht⟩) hS.2.2 hd X.2.2.2.2.2.1)
/-- the tables' facts of a constructor -/
def zIw (own : String) (index : Nat) (y : MethodName) (bytes : ByteArray) (maxL : Nat) : Prop := (y.cls ≠ "java/lang/invoke/MethodHandle" ∧ y.cls ≠ "java/lang/invoke/VarHandle" ∧ (parseMethodDescriptor y.desc).map (fun d => d.parameters.length) = some 0) ∧ y.name = "<init>" ∧ (Cond.methodLink own index y ∈ zALL ∨ Cond.methodLinkNest own index y "GateRow" ∈ lw_tbl) ∧ Cond.instanceMethod y ∈ zALL ∧ Cond.initialized y.cls ∈ zALL ∧ Cond.code y bytes maxL none ∈ zALL
theorem zb_back {mc ms : Nat} {ls : Array Slot} {st0 : List Value} {n : Nat} {Qe : zE → Prop} {locs : List Loc} {H : Heap} {a9 : Array Value}
    (hr : va_Run p l e R s m args below meth c H locs cells slots mc ms (F0 m pc ls st0) st ((fun (_ : Array Value) st oc t => oc = .returned none ∧ (∃ E' : zE, t.heap.size = n ∧ zhp D b0 E' t.heap ∧ Qe E') ∧ va_F (fun q => b0 ≤ q) st t) a9) (fun q => b0 ≤ q)) (hS : va_S (fun q => b0 ≤ q) s.heap H locs) (hls : zlv ls nL lv)
    (kk : ∀ E1 : zE, Qe E1 → zB p l e R s m args below meth c nL D b0 (cells + mc) (slots + ms) Q n E1 (pc + 3) lv st) : W p l e R s m args below meth c H locs cells slots Q (F0 m pc ls st0) := by
  intro T hT XS
  obtain ⟨v, st₀, t, T', L, h0, X', hL, e1, e2, ⟨hv, ⟨E1, hz1, hP1, hQ1⟩, hF⟩, st9⟩ := hr T hT XS
  have hv9 : v = none := Outcome.returned.inj hv
  subst hv9
  obtain ⟨k1, k2, k3⟩ := vx_keep h0 e1 hS (fun _ _ h => h) (fun _ h => h) hL hF
  obtain ⟨t2, a1, b1⟩ := kk E1 hQ1 ls hls T'.heap (locs ++ L) (by rw [e1]; exact hz1) (by rw [e1]; exact hP1) k3 T' rfl X'
  exact ⟨t2, st9 t2 a1, b1⟩
theorem zb_init (X : zX p l e R s m args below meth c own cc nL ret D b0 tA sa sv) {index maxL n a : Nat} {y : MethodName} {bytes : ByteArray} {rm9 : Room} {Qe : zE → Prop} (F : zIw own index y bytes maxL) (hT : zTa tA s)
    (hR : rm9.frames + 1 ≤ R.frames ∧ 8 + (maxL + 11) + rm9.locals ≤ R.locals) (hf : cells + rm9.cells ≤ R.cells ∧ slots + rm9.slots ≤ R.slots) (hw : (st.map fun v => v.category).sum ≤ 8) (hd : decode cc pc = .ok (.invokespecial index, 3))
    (hM : zCI l D b0 tA sa sv y bytes maxL rm9 a z E n Qe) (kk : ∀ E1 : zE, Qe E1 → zB p l e R s m args below meth c nL D b0 (cells + rm9.cells) (slots + rm9.slots) Q n E1 (pc + 3) lv st) : zB p l e R s m args below meth c nL D b0 cells slots Q z E pc lv (.ref a :: st) := by
  intro ls hls H locs hz hP hS
  obtain ⟨f3, fn, fl, fi, f7, f8⟩ := F
  have hnL : ls.size = nL := by obtain ⟨l9, h9, -⟩ := hls; exact h9.1
  have hts := X.2.2.2.2.1
  have hb : FrameBlind (fun (v : Array Value) (U : State) => v = #[Value.ref a] ∧ U.heap.size = z ∧ zhp D b0 E U.heap ∧ zK D b0 tA sa sv l U ∧ zTa tA U) := by
    intro a9 U g mk q
    obtain ⟨q1, q2, q3, q4, q5⟩ := q
    exact ⟨q1, q2, q3, zK.moved (u := U) (U := U.calling g mk a9) (locs := []) q4 (Vm.Alike.refl U.vm) (State.WarmedH.refl U) ⟨Nat.le_refl _, fun _ _ _ => rfl, fun _ h => by cases h⟩, q5⟩
  have hp : PreS s H (fun (v : Array Value) (U : State) => v = #[Value.ref a] ∧ U.heap.size = z ∧ zhp D b0 E U.heap ∧ zK D b0 tA sa sv l U ∧ zTa tA U) ([.ref a] : List Value) := ⟨hb, fun U hU hW => ⟨rfl, by rw [hU]; exact hz, by rw [hU]; exact hP, zK.moved X.2.2.2.2.2.2.1 hW.alike hW (by rw [hU]; exact hS), zTa.moved hW.alike hT⟩⟩
  rcases fl with fl | fl
  · exact zb_back (a9 := #[]) (va_runI (As := []) (b := a) (Ts := zALL) (cc := cc) (nL := nL) (own := own) ⟨X.1, X.2.1, X.2.2.1, X.2.2.2.1, hts⟩ hM (cwI 0 hts (zgood f8) rfl rfl rfl (hts _ f7) (hts _ fl) (hts _ fi) fn f3 hR) hp rfl rfl hnL rfl (lv_room hw) hd hf) hS hls kk
  · exact zb_back (a9 := #[]) (va_runIN (As := []) (b := a) (Ts := zALL) (cc := cc) (nL := nL) (own := own) ⟨X.1, X.2.1, X.2.2.1, X.2.2.2.1, hts⟩ hM ⟨va_cnB 0 hts (zgood f8) rfl rfl rfl (X.2.2.2.2.2.2.1.2.2.1 _ fl rfl) (hts _ f7) f3 hR, fn, hts _ fi⟩ hp rfl rfl hnL rfl (lv_room hw) hd hf) hS hls kk
end ZBLD
