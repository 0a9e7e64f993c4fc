/-! ===== MY OWN LAYER 1: a heap by a function from addresses to what lies there (the kit's va_at, a cell at a time), and the rows that read and write it ===== -/
/-- the heap holds what E says, at addresses from b0 on -/
def zhp (D : va_G) (b0 : Nat) (E : Nat → Option va_E) (H : Heap) : Prop := ∀ (a : Nat) (e : va_E), E a = some e → va_at D vwCl (a, e) H ∧ b0 ≤ a
def zup (E : Nat → Option va_E) (a : Nat) (e : va_E) : Nat → Option va_E := fun q => if q = a then some e else E q
theorem zhp.set {D : va_G} {b0 : Nat} {E : Nat → Option va_E} {H H1 : Heap} {a : Nat} {e : va_E} (h : zhp D b0 E H) (hb : b0 ≤ a) (he : va_at D vwCl (a, e) H1) (oq : ∀ q : Nat, q ≠ a → H1[q]? = H[q]?) : zhp D b0 (zup E a e) H1 := by
  intro q f hq
  by_cases hqa : q = a
  · subst hqa
    rw [zup, if_pos rfl] at hq
    cases hq
    exact ⟨he, hb⟩
  · rw [zup, if_neg hqa] at hq
    exact ⟨(h q f hq).1.kept (oq q hqa), (h q f hq).2⟩
theorem zhp.kept {D : va_G} {b0 : Nat} {E : Nat → Option va_E} {H H1 : Heap} (h : zhp D b0 E H) (oq : ∀ q : Nat, q < H.size → H1[q]? = H[q]?) : zhp D b0 E H1 :=
  fun q f hq => ⟨(h q f hq).1.kept (oq q (h q f hq).1.lt), (h q f hq).2⟩
/-- the words of the tables that a warming keeps: every method's own list -/
def zALL : List Cond := lw_tbl.filter goodWord
theorem zin {w : Cond} (h : w ∈ lw_tbl) (g : goodWord w = true) : w ∈ zALL := List.mem_filter.mpr ⟨h, g⟩
theorem zgood {y : MethodName} {b : ByteArray} {n : Nat} {r : Option FieldType} (h : Cond.code y b n r ∈ zALL) : GoodIn zALL (Cond.code y b n r :: zALL) := by
  intro w hw
  rcases List.mem_cons.mp hw with rfl | hw
  · exact ⟨h, good_of_word (List.mem_filter.mp h).2⟩
  · exact ⟨hw, good_of_word (List.mem_filter.mp hw).2⟩
theorem zgoodW {y : MethodName} {b : ByteArray} {n : Nat} {r : Option FieldType} {hh : List (Nat × Nat × Nat × Nat)} (h : Cond.codeWith y b n r hh ∈ zALL) : GoodIn zALL (Cond.codeWith y b n r hh :: zALL) := by
  intro w hw
  rcases List.mem_cons.mp hw with rfl | hw
  · exact ⟨h, good_of_word (List.mem_filter.mp h).2⟩
  · exact ⟨hw, good_of_word (List.mem_filter.mp hw).2⟩
/-- the words that a warming keeps by laws of their own: links of nest mates, casts -/
def zNest : Cond → Bool
  | .fieldLinkNest .. => true
  | .methodLinkNest .. => true
  | .castable .. => true
  | .declares .. => true
  | _ => false
theorem zNest_tab {w : Cond} (h : zNest w = true) : w.onTables = true := by
  cases w <;> first | rfl | (simp [zNest] at h)
theorem zNest_warm {w : Cond} {s U : State} (hw : zNest w = true) (hW : s.WarmedH U.vm) (h : va_Nw w s) : va_Nw w U := by
  cases w <;> first | exact va_Nw.warmF hW h | exact va_Nw.warmM hW h | exact va_Nw.warmC hW h | exact va_Nw.warmD hW h | (simp [zNest] at hw)
section ZW
variable {p : Program} {l : Launch} {e : Env} {R : Room} {s : State} {m : MethodId} {args : Array Value} {below : List Frame} {meth : Method} {c : Code} {cells slots : Nat} {Q : State → Prop}
variable {cc : ByteArray} {pc : Nat} {ls : Array Slot} {rest : List Value} {D : va_G} {b0 : Nat} {E : Nat → Option va_E} {a : Nat} {tys : List (ClassId × FieldType)} {own : String}
/-- a walk over a heap of which only E and the frame are known -/
def zW (p : Program) (l : Launch) (e : Env) (R : Room) (s : State) (m : MethodId) (args : Array Value) (below : List Frame) (meth : Method) (c : Code) (D : va_G) (b0 cells slots : Nat) (Q : State → Prop) (E : Nat → Option va_E) (pc : Nat) (ls : Array Slot) (st : List Value) : Prop :=
  ∀ (H : Heap) (locs : List Loc), zhp D b0 E H → va_S (fun q => b0 ≤ q) s.heap H locs → W p l e R s m args below meth c H locs cells slots Q (F0 m pc ls st)
theorem zW_get (hexec : p.tables.exec = Jvm.exec) (hb : c.code = cc) {C : String} {T : u_T} {N ci index : Nat} {Ts : List Cond} (hts : ∀ w ∈ Ts, w.before args s = true) (hin : ∀ w ∈ u_ws C T N, w ∈ Ts) (hown : s.vm.findClass own = some m.cls) (hK : va_K D vwCl tys s) {fs : List Value} (he : E a = some (.inr (ci, fs))) (hc : vwCl[ci]? = some (C, T, N)) (k : Nat) (hk : k < N) (hlink : (Cond.fieldLink own index C (T k).2.1 (T k).2.2.1).before args s = true) (hC : (T k).1 = C) {v : Value} (hv : fs[k]? = some v) (hdg : decode cc pc = .ok (.getfield index, 3))
    (kk : zW p l e R s m args below meth c D b0 cells slots Q E (pc + 3) ls (v :: rest)) : zW p l e R s m args below meth c D b0 cells slots Q E pc ls (.ref a :: rest) := by
  intro H locs hP hS
  refine va_get (D := D) (cl := vwCl) (ws := [(a, .inr (ci, fs))]) (ref := C) hexec hb hts hin hown hK (fun k q h => ?_) 0 rfl hc k hk hlink (fun x h => by rw [← hC]; rw [hC] at h ⊢; exact h) hv hdg (kk H locs hP hS)
  cases k with
  | zero => cases h; exact (hP a _ he).1
  | succ k => cases h
theorem zW_getN (hexec : p.tables.exec = Jvm.exec) (hb : c.code = cc) {host C : String} {T : u_T} {N ci index : Nat} {Ts : List Cond} (hts : ∀ w ∈ Ts, w.before args s = true) (hin : ∀ w ∈ u_ws C T N, w ∈ Ts) (hown : s.vm.findClass own = some m.cls) (hK : va_K D vwCl tys s) {fs : List Value} (he : E a = some (.inr (ci, fs))) (hc : vwCl[ci]? = some (C, T, N)) (k : Nat) (hk : k < N) (hlink : (Cond.fieldLinkNest own index C (T k).2.1 (T k).2.2.1 host).before args s = true) (hC : (T k).1 = C) {v : Value} (hv : fs[k]? = some v) (hdg : decode cc pc = .ok (.getfield index, 3))
    (kk : zW p l e R s m args below meth c D b0 cells slots Q E (pc + 3) ls (v :: rest)) : zW p l e R s m args below meth c D b0 cells slots Q E pc ls (.ref a :: rest) := by
  intro H locs hP hS
  refine va_getN (D := D) (cl := vwCl) (ws := [(a, .inr (ci, fs))]) (ref := C) hexec hb hts hin hown hK (fun k q h => ?_) 0 rfl hc k hk hlink (fun x h => by rw [← hC]; rw [hC] at h ⊢; exact h) hv hdg (kk H locs hP hS)
  cases k with
  | zero => cases h; exact (hP a _ he).1
  | succ k => cases h
theorem zW_put (hexec : p.tables.exec = Jvm.exec) (hb : c.code = cc) {C : String} {T : u_T} {N ci index : Nat} {Ts : List Cond} (hts : ∀ w ∈ Ts, w.before args s = true) (hin : ∀ w ∈ u_ws C T N, w ∈ Ts) (ty0 : Nat → FieldType) (hty : ∀ k, k < N → parseFieldDescriptor (T k).2.2.1 = some (ty0 k)) (hnm : ∀ a, a < N → ∀ b, b < N → a ≠ b → (T a).2.1 ≠ (T b).2.1) (hown : s.vm.findClass own = some m.cls) (hK : va_K D vwCl tys s) {fs : List Value} (he : E a = some (.inr (ci, fs))) (hc : vwCl[ci]? = some (C, T, N)) (k : Nat) (hk : k < N) (hlink : (Cond.fieldLink own index C (T k).2.1 (T k).2.2.1).before args s = true) (hC : (T k).1 = C) (hfin : (T k).2.2.2 = false) {ty : FieldType} {v : Value} (hd : parseFieldDescriptor (T k).2.2.1 = some ty) (hn : narrow ty v = v) (hfit : fits ty v = true) (hl : k < fs.length)
    (hdg : decode cc pc = .ok (.putfield index, 3)) (kk : zW p l e R s m args below meth c D b0 cells slots Q (zup E a (.inr (ci, fs.set k v))) (pc + 3) ls rest) : zW p l e R s m args below meth c D b0 cells slots Q E pc ls (v :: .ref a :: rest) := by
  intro H locs hP hS
  have hap := va_apart (own := own) hts hin ty0 hty hnm hK hc
  obtain ⟨⟨r, h1, cell, q1, q2, q3, q4⟩, hba⟩ := hP a _ he
  have hr : r = (C, T, N) := Option.some.inj (h1.symm.trans hc)
  subst hr
  obtain ⟨hSl, hfc, kC, hkC, hkind⟩ := hK.1 ci _ hc
  obtain ⟨cf, kf, fi, f, hi, hsl⟩ := hSl k hk
  have hlay := hts _ (hin _ (u_in_lay hk))
  unfold u_lay at hlay
  rw [if_neg (by rw [hfin]; decide)] at hlay
  have hst := (u_facts hfc hkC (u_lays hts hin hk) hi).1
  have h6 := u_store hfc hkC hkind hlay hi hd hn hfit
  rw [hC] at hi
  refine W.putK hexec hb (f := f) ⟨hown, hlink, ⟨_, _, _, hi⟩, hst⟩ (by rw [q2]; exact h6) q1 q3 (by rw [hsl]; exact k2_hasslot (q4 k hk)) rfl rfl hdg fun H' e1 e2 e3 => ?_
  rw [hsl] at e1 ⊢
  exact kk H' _ (hP.set hba ⟨_, hc, t_OB.to (V := updV (vp_V fs) k v) ⟨_, e1, q2, q3, t_set q4 hap hk v⟩ (fun j _ => vp_updV_set hl v j)⟩ e3) (hS.put e2 e3 hba)
theorem zW_putN (hexec : p.tables.exec = Jvm.exec) (hb : c.code = cc) {host C : String} {T : u_T} {N ci index : Nat} {Ts : List Cond} (hts : ∀ w ∈ Ts, w.before args s = true) (hin : ∀ w ∈ u_ws C T N, w ∈ Ts) (ty0 : Nat → FieldType) (hty : ∀ k, k < N → parseFieldDescriptor (T k).2.2.1 = some (ty0 k)) (hnm : ∀ a, a < N → ∀ b, b < N → a ≠ b → (T a).2.1 ≠ (T b).2.1) (hown : s.vm.findClass own = some m.cls) (hK : va_K D vwCl tys s) {fs : List Value} (he : E a = some (.inr (ci, fs))) (hc : vwCl[ci]? = some (C, T, N)) (k : Nat) (hk : k < N) (hlink : (Cond.fieldLinkNest own index C (T k).2.1 (T k).2.2.1 host).before args s = true) (hC : (T k).1 = C) (hfin : (T k).2.2.2 = false) {ty : FieldType} {v : Value} (hd : parseFieldDescriptor (T k).2.2.1 = some ty) (hn : narrow ty v = v) (hfit : fits ty v = true) (hl : k < fs.length)
    (hdg : decode cc pc = .ok (.putfield index, 3)) (kk : zW p l e R s m args below meth c D b0 cells slots Q (zup E a (.inr (ci, fs.set k v))) (pc + 3) ls rest) : zW p l e R s m args below meth c D b0 cells slots Q E pc ls (v :: .ref a :: rest) := by
  intro H locs hP hS
  have hap := va_apart (own := own) hts hin ty0 hty hnm hK hc
  obtain ⟨⟨r, h1, cell, q1, q2, q3, q4⟩, hba⟩ := hP a _ he
  have hr : r = (C, T, N) := Option.some.inj (h1.symm.trans hc)
  subst hr
  obtain ⟨hSl, hfc, kC, hkC, hkind⟩ := hK.1 ci _ hc
  obtain ⟨cf, kf, fi, f, hi, hsl⟩ := hSl k hk
  have hlay := hts _ (hin _ (u_in_lay hk))
  unfold u_lay at hlay
  rw [if_neg (by rw [hfin]; decide)] at hlay
  have hst := (u_facts hfc hkC (u_lays hts hin hk) hi).1
  have h6 := u_store hfc hkC hkind hlay hi hd hn hfit
  rw [hC] at hi
  refine va_WputK hexec hb (f := f) hown hlink hi hst (by rw [q2]; exact h6) q1 q3 (by rw [hsl]; exact k2_hasslot (q4 k hk)) rfl rfl hdg fun H' e1 e2 e3 => ?_
  rw [hsl] at e1 ⊢
  exact kk H' _ (hP.set hba ⟨_, hc, t_OB.to (V := updV (vp_V fs) k v) ⟨_, e1, q2, q3, t_set q4 hap hk v⟩ (fun j _ => vp_updV_set hl v j)⟩ e3) (hS.put e2 e3 hba)
theorem zW_putF (hexec : p.tables.exec = Jvm.exec) (hb : c.code = cc) {C : String} {T : u_T} {N ci index : Nat} {Ts : List Cond} (hts : ∀ w ∈ Ts, w.before args s = true) (hin : ∀ w ∈ u_ws C T N, w ∈ Ts) (ty0 : Nat → FieldType) (hty : ∀ k, k < N → parseFieldDescriptor (T k).2.2.1 = some (ty0 k)) (hnm : ∀ a, a < N → ∀ b, b < N → a ≠ b → (T a).2.1 ≠ (T b).2.1) (hown : s.vm.findClass own = some m.cls) (hK : va_K D vwCl tys s) {fs : List Value} (he : E a = some (.inr (ci, fs))) (hc : vwCl[ci]? = some (C, T, N)) (k : Nat) (hk : k < N) (hlink : (Cond.fieldLink own index C (T k).2.1 (T k).2.2.1).before args s = true) (hC : (T k).1 = C) (hfin : (T k).2.2.2 = true) (hin2 : meth.name = "<init>") (hdecl : C = own) {ty : FieldType} {v : Value} (hd : parseFieldDescriptor (T k).2.2.1 = some ty) (hn : narrow ty v = v) (hfit : fits ty v = true) (hl : k < fs.length)
    (hdg : decode cc pc = .ok (.putfield index, 3)) (kk : zW p l e R s m args below meth c D b0 cells slots Q (zup E a (.inr (ci, fs.set k v))) (pc + 3) ls rest) : zW p l e R s m args below meth c D b0 cells slots Q E pc ls (v :: .ref a :: rest) := by
  intro H locs hP hS
  have hap := va_apart (own := own) hts hin ty0 hty hnm hK hc
  obtain ⟨⟨r, h1, cell, q1, q2, q3, q4⟩, hba⟩ := hP a _ he
  have hr : r = (C, T, N) := Option.some.inj (h1.symm.trans hc)
  subst hr
  obtain ⟨hSl, hfc, kC, hkC, hkind⟩ := hK.1 ci _ hc
  obtain ⟨cf, kf, fi, f, hi, hsl⟩ := hSl k hk
  have hlay := hts _ (hin _ (u_in_lay hk))
  unfold u_lay at hlay
  rw [if_pos hfin] at hlay
  have hst := (u_facts hfc hkC (u_lays hts hin hk) hi).1
  have hcf : m.cls = cf := by
    obtain ⟨_, _, c', _, _, _, -, -, hf', -, -, -, hown2, -⟩ := Cond.laysFinal_spec hlay
    have e1 : c' = cf := by have := hi.symm.trans hf'; simp at this; exact this.1.symm
    rw [hC, hdecl] at hown2
    rw [← e1]; exact Option.some.inj (hown.symm.trans hown2)
  have h6 := u_fits hfc hkC hkind (Or.inr hlay) hi hd hn hfit
  rw [hC] at hi
  refine W.putFinK hexec hb hown hlink hi hst hcf hin2 (by rw [q2]; exact h6) q1 q3 (by rw [hsl]; exact k2_hasslot (q4 k hk)) rfl rfl hdg fun H' e1 e2 e3 => ?_
  rw [hsl] at e1 ⊢
  exact kk H' _ (hP.set hba ⟨_, hc, t_OB.to (V := updV (vp_V fs) k v) ⟨_, e1, q2, q3, t_set q4 hap hk v⟩ (fun j _ => vp_updV_set hl v j)⟩ e3) (hS.put e2 e3 hba)
theorem zW_iald (hexec : p.tables.exec = Jvm.exec) (hb : c.code = cc) {cA : ClassId} (hA : ArrOfT s cA .int) {n : Nat} {f : Nat → Int32} (he : E a = some (.inl (cA, n, .inl f))) {i : Int32} (hin : vp_in i n) (hdg : decode cc pc = .ok (.iaload, 1))
    (kk : zW p l e R s m args below meth c D b0 cells slots Q E (pc + 1) ls (.int (f i.toNatClampNeg) :: rest)) : zW p l e R s m args below meth c D b0 cells slots Q E pc ls (.int i :: .ref a :: rest) := by
  intro H locs hP hS
  have hlt : i.toNatClampNeg < n := Nat.not_le.mp fun q => hin (Or.inr q)
  exact W.iald (v := .int (f i.toNatClampNeg)) hexec hb ((hP a _ he).1) (hA n (fun j => .int (f j))) (fun q => by cases q) (by show ¬ (i < 0 ∨ (arrV _ _ _).slots.size ≤ _); rw [arrV_size]; exact hin) (by show (arrV _ _ _).slots[_]? = _; rw [arrV_read _ _ hlt]) rfl rfl hdg (kk H locs hP hS)
theorem zW_bald (hexec : p.tables.exec = Jvm.exec) (hb : c.code = cc) {cA : ClassId} (hA : ArrOfT s cA .byte) {n : Nat} {f : Nat → Int32} (he : E a = some (.inl (cA, n, .inl f))) {i : Int32} (hin : vp_in i n) (hdg : decode cc pc = .ok (.baload, 1))
    (kk : zW p l e R s m args below meth c D b0 cells slots Q E (pc + 1) ls (.int (f i.toNatClampNeg) :: rest)) : zW p l e R s m args below meth c D b0 cells slots Q E pc ls (.int i :: .ref a :: rest) := by
  intro H locs hP hS
  have hlt : i.toNatClampNeg < n := Nat.not_le.mp fun q => hin (Or.inr q)
  exact W.bald (v := .int (f i.toNatClampNeg)) hexec hb ((hP a _ he).1) (hA n (fun j => .int (f j))) (fun q => by cases q) (by show ¬ (i < 0 ∨ (arrV _ _ _).slots.size ≤ _); rw [arrV_size]; exact hin) (by show (arrV _ _ _).slots[_]? = _; rw [arrV_read _ _ hlt]) rfl rfl hdg (kk H locs hP hS)
theorem zW_lald (hexec : p.tables.exec = Jvm.exec) (hb : c.code = cc) {cA : ClassId} (hA : ArrOfT s cA .long) {n : Nat} {f : Nat → Int64} (he : E a = some (.inl (cA, n, .inr (.inl f)))) {i : Int32} (hin : vp_in i n) (hdg : decode cc pc = .ok (.laload, 1))
    (kk : zW p l e R s m args below meth c D b0 cells slots Q E (pc + 1) ls (.long (f i.toNatClampNeg) :: rest)) : zW p l e R s m args below meth c D b0 cells slots Q E pc ls (.int i :: .ref a :: rest) := by
  intro H locs hP hS
  have hlt : i.toNatClampNeg < n := Nat.not_le.mp fun q => hin (Or.inr q)
  exact W.lald (v := .long (f i.toNatClampNeg)) hexec hb ((hP a _ he).1) (hA n (fun j => .long (f j))) (fun q => by cases q) (by show ¬ (i < 0 ∨ (arrV _ _ _).slots.size ≤ _); rw [arrV_size]; exact hin) (by show (arrV _ _ _).slots[_]? = _; rw [arrV_read _ _ hlt]) rfl rfl hdg (kk H locs hP hS)
theorem zW_aald (hexec : p.tables.exec = Jvm.exec) (hb : c.code = cc) {cA : ClassId} {ty : FieldType} (hA : ArrOfT s cA ty) (hty : ty.isReference = true) {n : Nat} {f : Nat → Option Nat} (he : E a = some (.inl (cA, n, .inr (.inr (.inr (.inr f)))))) {i : Int32} (hin : vp_in i n) (hdg : decode cc pc = .ok (.aaload, 1))
    (kk : zW p l e R s m args below meth c D b0 cells slots Q E (pc + 1) ls (va_rf (f i.toNatClampNeg) :: rest)) : zW p l e R s m args below meth c D b0 cells slots Q E pc ls (.int i :: .ref a :: rest) := by
  intro H locs hP hS
  have hlt : i.toNatClampNeg < n := Nat.not_le.mp fun q => hin (Or.inr q)
  exact W.aald (v := va_rf (f i.toNatClampNeg)) (ty := ty) hexec hb ((hP a _ he).1) (hA n (fun j => va_rf (f j))) hty (fun q => by cases q) (by show ¬ (i < 0 ∨ (arrV _ _ _).slots.size ≤ _); rw [arrV_size]; exact hin) (by show (arrV _ _ _).slots[_]? = _; rw [arrV_read _ _ hlt]) rfl rfl hdg (kk H locs hP hS)
theorem zW_iast (hexec : p.tables.exec = Jvm.exec) (hb : c.code = cc) {cA : ClassId} (hA : ArrOfT s cA .int) {n : Nat} {f : Nat → Int32} (he : E a = some (.inl (cA, n, .inl f))) {i x : Int32} (hin : vp_in i n) (hdg : decode cc pc = .ok (.iastore, 1))
    (kk : zW p l e R s m args below meth c D b0 cells slots Q (zup E a (.inl (cA, n, .inl (upd f i.toNatClampNeg x)))) (pc + 1) ls rest) : zW p l e R s m args below meth c D b0 cells slots Q E pc ls (.int x :: .int i :: .ref a :: rest) := by
  intro H locs hP hS
  refine W.iast hexec hb ((hP a _ he).1) (hA n (fun j => .int (f j))) (fun q => by cases q) (by show ¬ (i < 0 ∨ (arrV _ _ _).slots.size ≤ _); rw [arrV_size]; exact hin) rfl rfl hdg fun H1 e1 z oq => ?_
  refine kk H1 _ (hP.set (hP a _ he).2 ?_ oq) (hS.put z oq (hP a _ he).2)
  show H1[a]? = some (vp_cell _ _)
  rw [e1, vp_cell_i, vp_cell_i, arrV_store]
  congr 2
  funext q
  by_cases hq : q = i.toNatClampNeg
  · subst hq; simp [updV, upd]
  · simp [updV, upd, hq]
theorem zW_bast (hexec : p.tables.exec = Jvm.exec) (hb : c.code = cc) {cA : ClassId} (hA : ArrOfT s cA .byte) {n : Nat} {f : Nat → Int32} (he : E a = some (.inl (cA, n, .inl f))) {i x : Int32} (hin : vp_in i n) (hdg : decode cc pc = .ok (.bastore, 1))
    (kk : zW p l e R s m args below meth c D b0 cells slots Q (zup E a (.inl (cA, n, .inl (upd f i.toNatClampNeg (vp_nar .byte x))))) (pc + 1) ls rest) : zW p l e R s m args below meth c D b0 cells slots Q E pc ls (.int x :: .int i :: .ref a :: rest) := by
  intro H locs hP hS
  refine W.bast hexec hb ((hP a _ he).1) (hA n (fun j => .int (f j))) (fun q => by cases q) (by show ¬ (i < 0 ∨ (arrV _ _ _).slots.size ≤ _); rw [arrV_size]; exact hin) rfl rfl hdg fun H1 e1 z oq => ?_
  refine kk H1 _ (hP.set (hP a _ he).2 ?_ oq) (hS.put z oq (hP a _ he).2)
  show H1[a]? = some (vp_cell _ _)
  rw [e1, vp_cell_i, vp_cell_i, arrV_store]
  congr 2
  funext q
  by_cases hq : q = i.toNatClampNeg
  · subst hq; simp [updV, upd, vp_nar]; try rfl
  · simp [updV, upd, hq]
theorem zW_last (hexec : p.tables.exec = Jvm.exec) (hb : c.code = cc) {cA : ClassId} (hA : ArrOfT s cA .long) {n : Nat} {f : Nat → Int64} (he : E a = some (.inl (cA, n, .inr (.inl f)))) {i : Int32} {x : Int64} (hin : vp_in i n) (hdg : decode cc pc = .ok (.lastore, 1))
    (kk : zW p l e R s m args below meth c D b0 cells slots Q (zup E a (.inl (cA, n, .inr (.inl (vp_updL f i.toNatClampNeg x))))) (pc + 1) ls rest) : zW p l e R s m args below meth c D b0 cells slots Q E pc ls (.long x :: .int i :: .ref a :: rest) := by
  intro H locs hP hS
  refine W.last hexec hb ((hP a _ he).1) (hA n (fun j => .long (f j))) (fun q => by cases q) (by show ¬ (i < 0 ∨ (arrV _ _ _).slots.size ≤ _); rw [arrV_size]; exact hin) rfl rfl hdg fun H1 e1 z oq => ?_
  refine kk H1 _ (hP.set (hP a _ he).2 ?_ oq) (hS.put z oq (hP a _ he).2)
  show H1[a]? = some (vp_cell _ _)
  rw [e1, vp_cell_l, vp_cell_l, arrV_store]
  congr 2
  funext q
  by_cases hq : q = i.toNatClampNeg
  · subst hq; simp [updV, vp_updL]
  · simp [updV, vp_updL, hq]
theorem zW_alen (hexec : p.tables.exec = Jvm.exec) (hb : c.code = cc) {cA : ClassId} {ty : FieldType} (hA : ArrOfT s cA ty) {x : vp_A} (he : E a = some (.inl (cA, x))) (hdg : decode cc pc = .ok (.arraylength, 1))
    (kk : zW p l e R s m args below meth c D b0 cells slots Q E (pc + 1) ls (.int (Int32.ofNat x.1) :: rest)) : zW p l e R s m args below meth c D b0 cells slots Q E pc ls (.ref a :: rest) := by
  intro H locs hP hS
  have h9 := (hP a _ he).1
  obtain ⟨n, f | f | f | f | f⟩ := x
  · exact W.alen (n := Int32.ofNat n) hexec hb h9 (hA n (fun j => .int (f j))) (by rw [vp_cell_i, arrV_size] <;> rfl) rfl rfl hdg (kk H locs hP hS)
  · exact W.alen (n := Int32.ofNat n) hexec hb h9 (hA n (fun j => .long (f j))) (by rw [vp_cell_l, arrV_size] <;> rfl) rfl rfl hdg (kk H locs hP hS)
  · exact W.alen (n := Int32.ofNat n) hexec hb h9 (hA n (fun j => .float (f j))) (by rw [vp_cell_f, arrV_size] <;> rfl) rfl rfl hdg (kk H locs hP hS)
  · exact W.alen (n := Int32.ofNat n) hexec hb h9 (hA n (fun j => .double (f j))) (by rw [vp_cell_d, arrV_size] <;> rfl) rfl rfl hdg (kk H locs hP hS)
  · exact W.alen (n := Int32.ofNat n) hexec hb h9 (hA n (fun j => va_rf (f j))) (by rw [vp_cell_q, arrV_size] <;> rfl) rfl rfl hdg (kk H locs hP hS)
end ZW
