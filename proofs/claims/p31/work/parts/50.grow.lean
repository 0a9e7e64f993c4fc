/-! ===== growth ===== -/
def kup (K : zKt) (z k : Nat) : zKt := (fun q => if q = z then some k else K.1 q, fun q j => if q = z then none else K.2 q j)
def kset (K : zKt) (a j r : Nat) : zKt := (K.1, fun q i => if q = a then (if i = j then some r else K.2 q i) else K.2 q i)
def zz (I : zI) (z : Nat) : zI := fun q j => if q = z then 0 else I q j
/-- what was there is there -/
def kex (K K' : zKt) : Prop := ∀ a k : Nat, K.1 a = some k → K'.1 a = some k
/-- all there is lies ahead of z -/
def kfr (K : zKt) (z : Nat) : Prop := ∀ b q : Nat, K.1 b = some q → b < z
theorem kex.rf {K : zKt} : kex K K := fun _ _ h => h
theorem kex.tr {K K1 K2 : zKt} (h : kex K K1) (g : kex K1 K2) : kex K K2 := fun a k q => g a k (h a k q)
theorem kup_new {K : zKt} {z k : Nat} : (kup K z k).1 z = some k := if_pos rfl
theorem kup_old {K : zKt} {z k a : Nat} (h : a ≠ z) : (kup K z k).1 a = K.1 a := if_neg h
theorem kup_old2 {K : zKt} {z k a j : Nat} (h : a ≠ z) : (kup K z k).2 a j = K.2 a j := if_neg h
theorem kup_ex {K : zKt} {z k : Nat} (hz : kfr K z) : kex K (kup K z k) := fun a k9 h => (if_neg (by have := hz a k9 h; omega)).trans h
theorem kset_ex {K : zKt} {a j r : Nat} : kex K (kset K a j r) := fun _ _ h => h
theorem kset_eq {K : zKt} {a j r : Nat} : (kset K a j r).2 a j = some r := by unfold kset; dsimp only; rw [if_pos rfl, if_pos rfl]
theorem kset_ne {K : zKt} {a j r q i : Nat} (h : q ≠ a) : (kset K a j r).2 q i = K.2 q i := if_neg h
theorem kset_nj {K : zKt} {a j r q i : Nat} (h : i ≠ j) : (kset K a j r).2 q i = K.2 q i := by
  unfold kset; dsimp only
  by_cases e : q = a
  · rw [if_pos e, if_neg h]
  · rw [if_neg e]
theorem zz_ne {I : zI} {z q : Nat} (h : q ≠ z) : zz I z q = I q := by funext j; exact if_neg h
theorem zz_eq {I : zI} {z : Nat} {j : Nat} : zz I z z j = 0 := if_pos rfl
theorem zok.ex {sa : Nat → Nat} {K K' : zKt} (h : kex K K') : ∀ {v : AV}, zok sa K v → zok sa K' v
  | .inl _, _ => trivial
  | .inr (.inl _), hv => hv.imp (fun q => ⟨q.1, h _ _ q.2⟩) id
  | .inr (.inr _), _ => trivial
theorem zoks.ex {sa : Nat → Nat} {K K' : zKt} (h : kex K K') : ∀ {st : List AV}, zoks sa K st → zoks sa K' st
  | [], _ => trivial
  | _ :: _, hs => ⟨hs.1.ex h, zoks.ex h hs.2⟩
theorem zokl.ex {sa : Nat → Nat} {K K' : zKt} (h : kex K K') {lv : List (Option AV)} (hl : zokl sa K lv) : zokl sa K' lv := fun j v q => (hl j v q).ex h
theorem zinv_up {K : zKt} {I : zI} {z k : Nat} (hi : zinv K I) (hz : kfr K z) (hk : k < 24) (h1 : ∀ j, zfk k j = none) (h2 : zaq k = false) : zinv (kup K z k) (zz I z) := by
  have hx := kup_ex (k := k) hz
  intro a k9 ha
  by_cases e : a = z
  · subst e
    obtain rfl : k = k9 := Option.some.inj (kup_new.symm.trans ha)
    refine ⟨hk, fun j q h => ?_, fun h => ?_, fun j _ => Or.inl zz_eq, fun j q r _ h => ?_, fun j q r _ h => ?_⟩
    · rw [h1] at h; cases h
    · rw [h2] at h; cases h
    · rw [show (kup K a k).2 a j = none from if_pos rfl] at h; cases h
    · rw [show (kup K a k).2 a j = none from if_pos rfl] at h; cases h
  · rw [kup_old e] at ha
    obtain ⟨g1, g2, g3, g4, g5, g6⟩ := hi a k9 ha
    refine ⟨g1, fun j q h => hx _ _ (g2 j q h), fun h j hj => hx _ _ (g3 h j hj), fun j h => ?_, fun j q r h h9 => ?_, fun j q r h h9 => ?_⟩
    · rw [zz_ne e]; exact g4 j h
    · rw [kup_old2 e] at h9; exact hx _ _ (g5 j q r h h9)
    · rw [kup_old2 e] at h9; exact hx _ _ (g6 j q r h h9)
theorem zEof_up {tA : Nat → ClassId} {K : zKt} {I : zI} {z k : Nat} {E1 : zE} (e1 : E1 z = some (zcell tA k z (fun _ => none) (fun _ => 0))) (o1 : ∀ q, q ≠ z → E1 q = zEof tA K I q) : ∀ q e, zEof tA (kup K z k) (zz I z) q = some e → E1 q = some e := by
  intro q e h
  by_cases hq : q = z
  · subst hq
    rw [zEof_at (kup_new (K := K) (z := q) (k := k))] at h
    rw [e1, ← h]
    congr 2
    · funext j; exact (if_pos rfl).symm
    · funext j; exact zz_eq.symm
  · rw [o1 q hq]
    rw [zEof, kup_old hq, zz_ne hq, show (kup K z k).2 q = K.2 q from funext fun j => if_neg hq] at h
    exact h
theorem zinv_set {K : zKt} {I : zI} {a j k q r : Nat} (hi : zinv K I) (hk : K.1 a = some k) (hr : K.1 r = some q) (h1 : ∀ q9, zfd k j = some q9 → q9 = q) (h2 : ∀ q9, zad k = some q9 → q9 = q) : zinv (kset K a j r) I := by
  intro b k9 hb
  obtain ⟨g1, g2, g3, g4, g5, g6⟩ := hi b k9 hb
  refine ⟨g1, g2, g3, g4, fun i q9 r9 h h9 => ?_, fun i q9 r9 h h9 => ?_⟩
  · by_cases e : b = a ∧ i = j
    · obtain ⟨rfl, rfl⟩ := e
      rw [kset_eq] at h9
      obtain rfl : k9 = k := Option.some.inj (hb.symm.trans hk)
      cases h9
      rw [h1 _ h]; exact hr
    · have h8 : K.2 b i = some r9 := by
        by_cases e1 : b = a
        · rw [kset_nj (fun e2 => e ⟨e1, e2⟩)] at h9; exact h9
        · rw [kset_ne e1] at h9; exact h9
      exact g5 i q9 r9 h h8
  · by_cases e : b = a ∧ i = j
    · obtain ⟨rfl, rfl⟩ := e
      rw [kset_eq] at h9
      obtain rfl : k9 = k := Option.some.inj (hb.symm.trans hk)
      cases h9
      rw [h2 _ h]; exact hr
    · have h8 : K.2 b i = some r9 := by
        by_cases e1 : b = a
        · rw [kset_nj (fun e2 => e ⟨e1, e2⟩)] at h9; exact h9
        · rw [kset_ne e1] at h9; exact h9
      exact g6 i q9 r9 h h8
theorem zEof_set {tA : Nat → ClassId} {K : zKt} {I : zI} {a j k r : Nat} {E1 : zE} (hk : K.1 a = some k) (e1 : E1 a = some (zcell tA k a ((kset K a j r).2 a) (I a))) (o1 : ∀ q, q ≠ a → E1 q = zEof tA K I q) : ∀ q e, zEof tA (kset K a j r) I q = some e → E1 q = some e := by
  intro q e h
  by_cases hq : q = a
  · subst hq
    rw [zEof_at (K := kset K q j r) hk] at h
    rw [e1, ← h]
  · rw [o1 q hq]
    rw [zEof, show (kset K a j r).2 q = K.2 q from funext fun i => kset_ne hq] at h
    exact h
/-- the class of an array of references, from the tables -/
theorem zRA_of {A : ClassId} {C : String} {U : State} (h : zAO (.object C) U) (hk : U.vm.findClass ("[" ++ (FieldType.object C).toString) = some A) : zRA A C U := by
  obtain ⟨comp, c, k, h1, -, h3, h4, h5⟩ := Cond.arrayOver_spec (show (Cond.arrayOver (.object C)).holds #[] U none U [] = true from h)
  obtain rfl : c = A := Option.some.inj (h5.symm.trans hk)
  exact ⟨k, comp, h3, h4, h1⟩
section ZGR
variable {p : Program} {l : Launch} {e : Env} {R : Room} {s : State} {m : MethodId} {args : Array Value} {below : List Frame} {meth : Method} {c : Code} {cells slots : Nat} {Q : State → Prop}
variable {cc : ByteArray} {pc nL : Nat} {D : va_G} {b0 : Nat} {tA : Nat → ClassId} {sa sv : Nat → Nat} {K : zKt} {own : String} {ret : Option FieldType} {lv : List (Option AV)} {st : List AV} {I : zI}
theorem zG_zB (X : zX p l e R s m args below meth c own cc nL ret D b0 tA sa sv) (h : zinv K I → zoks sa K st → zokl sa K lv → ∀ z : Nat, kfr K z → b0 ≤ z → zB p l e R s m args below meth c nL D b0 cells slots Q z (zEof tA K I) pc lv (st.map zv)) : zG p l e R s m args below meth c nL D b0 tA sa cells slots Q K pc lv st I := by
  intro hi hs hl ls hls H locs hP hS
  exact h hi hs hl H.size (fun b q hb => (hP b _ (zEof_at hb)).1.lt) (by have := X.2.2.2.2.2.2.1.2.2.2.1; have := hS.1; omega) ls hls H locs rfl hP hS
theorem zB_zG {z : Nat} {E : zE} (hi : zinv K I) (hs : zoks sa K st) (hl : zokl sa K lv) (he : ∀ q e, zEof tA K I q = some e → E q = some e) (k : zG p l e R s m args below meth c nL D b0 tA sa cells slots Q K pc lv st I) : zB p l e R s m args below meth c nL D b0 cells slots Q z E pc lv (st.map zv) :=
  fun ls hls H locs _ hP hS => k hi hs hl ls hls H locs (fun q e hq => hP q e (he q e hq)) hS
/-- the tables' facts of a class that is made -/
def zNw (own : String) (index k N : Nat) : Prop := ∃ (C : String) (T : u_T) (ty : Nat → FieldType), (∀ w ∈ u_ws C T N, w ∈ zALL) ∧ vwCl[zci k]? = some (C, T, N) ∧ (zob k = true ∧ zfn k = N ∧ zaq k = false ∧ ∀ j, zfk k j = none) ∧ (∀ j, j < N → parseFieldDescriptor (T j).2.2.1 = some (ty j)) ∧ Cond.classLink own index C ∈ zALL ∧ Cond.instantiable C N ∈ zALL ∧ Cond.initialized C ∈ zALL ∧ (∀ j, j < N → defaultValue (ty j) = zfv k 0 j none 0)
theorem zr_new (X : zX p l e R s m args below meth c own cc nL ret D b0 tA sa sv) {index k N : Nat} (F : zNw own index k N) (hf : cells + 1 ≤ R.cells ∧ slots + N ≤ R.slots) (hd : decode cc pc = .ok (.new index, 3))
    (kk : ∀ z : Nat, kfr K z → b0 ≤ z → zG p l e R s m args below meth c nL D b0 tA sa (cells + 1) (slots + N) Q (kup K z k) (pc + 3) lv (vr z k :: st) (zz I z)) : zG p l e R s m args below meth c nL D b0 tA sa cells slots Q K pc lv st I := by
  obtain ⟨C, T, ty, h1, h2, ⟨h3, h4, h5, h6⟩, h7, h8, h9, h10, h11⟩ := F
  refine zG_zB X (fun hi hs hl z hz hb => ?_)
  have hx := kup_ex (k := k) hz
  refine zb_new (ci := zci k) (fs := zfl k z (fun _ => none) (fun _ => 0)) X h1 h2 h7 h8 h9 h10 (fun j hj => ?_) hf hd (fun E1 e1 o1 => ?_)
  · rw [h11 j hj]
    show _ = (zfl k z (fun _ => none) (fun _ => 0)).getD j .null
    rw [List.getD_eq_getElem?_getD, zfl_get (by omega)]
    show _ = zfv k z j none 0
    unfold zfv
    rw [h6 j]
  · exact zB_zG (st := vr z k :: st) (zinv_up hi hz (zob_lt h3) h6 h5) ⟨Or.inl ⟨zob_lt h3, kup_new⟩, hs.ex hx⟩ (hl.ex hx) (zEof_up (e1.trans (by rw [zcell, if_pos h3])) o1) (kk z hz hb)
/-- an array of numbers -/
theorem zr_newa (X : zX p l e R s m args below meth c own cc nL ret D b0 tA sa sv) {atype : ArrayType} {n : Int32} {N k : Nat} (harr : Cond.arrayClass (newarray.typeOf atype) ∈ zALL) (hdv : defaultValue (newarray.typeOf atype) = .int 0) (hk : s.vm.findClass ("[" ++ (newarray.typeOf atype).toString) = some (tA (zac k))) (hq : (k < 24 ∧ zan k = N) ∧ zob k = false ∧ zaq k = false ∧ zad k = none ∧ ∀ j, zfk k j = none) (hn : ¬ n < 0) (hN : n.toNatClampNeg = N) (hbytes : N * componentBytes (newarray.typeOf atype) ≤ 536870912) (hf : cells + 1 ≤ R.cells ∧ slots + N ≤ R.slots) (hd : decode cc pc = .ok (.newarray atype, 2))
    (kk : ∀ z : Nat, kfr K z → b0 ≤ z → zG p l e R s m args below meth c nL D b0 tA sa (cells + 1) (slots + N) Q (kup K z k) (pc + 2) lv (vr z k :: st) (zz I z)) : zG p l e R s m args below meth c nL D b0 tA sa cells slots Q K pc lv (vi n :: st) I := by
  obtain ⟨⟨h1, h2⟩, h3, h4, h5, h6⟩ := hq
  refine zG_zB X (fun hi hs hl z hz hb => ?_)
  have hx := kup_ex (k := k) hz
  refine zb_newa (k := zac k) (N := N) (w := (N, .inl (fun _ => 0))) X harr (fun _ => by rw [hdv]; rfl) hk hn hN hbytes hf hd (fun E1 e1 o1 => ?_)
  exact zB_zG (st := vr z k :: st) (zinv_up hi hz h1 h6 h4) ⟨Or.inl ⟨h1, kup_new⟩, hs.2.ex hx⟩ (hl.ex hx) (zEof_up (e1.trans (by rw [zcell, if_neg (by rw [h3]; decide), if_neg (by rw [h4]; decide), if_neg (by rw [h5]; decide), h2])) o1) (kk z hz hb)
/-- an array of references -/
theorem zr_anew (X : zX p l e R s m args below meth c own cc nL ret D b0 tA sa sv) {index : Nat} {C : String} {n : Int32} {N k q : Nat} (hcl : Cond.classLink own index C ∈ zALL) (hover : zAO (.object C) s) (hk : s.vm.findClass ("[" ++ (FieldType.object C).toString) = some (tA (zac k))) (hq : (k < 24 ∧ zan k = N) ∧ zob k = false ∧ zaq k = false ∧ zad k = some q ∧ ∀ j, zfk k j = none) (hn : ¬ n < 0) (hN : n.toNatClampNeg = N) (hbytes : N * 4 ≤ 536870912) (hf : cells + 1 ≤ R.cells ∧ slots + N ≤ R.slots) (hd : decode cc pc = .ok (.anewarray index, 3))
    (kk : ∀ z : Nat, kfr K z → b0 ≤ z → zG p l e R s m args below meth c nL D b0 tA sa (cells + 1) (slots + N) Q (kup K z k) (pc + 3) lv (vr z k :: st) (zz I z)) : zG p l e R s m args below meth c nL D b0 tA sa cells slots Q K pc lv (vi n :: st) I := by
  obtain ⟨⟨h1, h2⟩, h3, h4, h5, h6⟩ := hq
  refine zG_zB X (fun hi hs hl z hz hb => ?_)
  have hx := kup_ex (k := k) hz
  refine zb_anew (k := zac k) (N := N) X hcl hover hk hn hN hbytes hf hd (fun _ E1 e1 o1 => ?_)
  exact zB_zG (st := vr z k :: st) (zinv_up hi hz h1 h6 h4) ⟨Or.inl ⟨h1, kup_new⟩, hs.2.ex hx⟩ (hl.ex hx) (zEof_up (e1.trans (by rw [zcell, if_neg (by rw [h3]; decide), if_neg (by rw [h4]; decide), if_pos (by rw [h5]; rfl), h2])) o1) (kk z hz hb)
/-- a reference that was put -/
theorem zr_getD (X : zX p l e R s m args below meth c own cc nL ret D b0 tA sa sv) {index ci j a q r : Nat} (F : zFx own index ci j) (hn : (zfk ci j, zfd ci j) = (none, some q)) (hc9 : zob ci = true) (hr : K.2 a j = some r) (hd : decode cc pc = .ok (.getfield index, 3))
    (k : zG p l e R s m args below meth c nL D b0 tA sa cells slots Q K (pc + 3) lv (vr r q :: st) I) : zG p l e R s m args below meth c nL D b0 tA sa cells slots Q K pc lv (vr a ci :: st) I := by
  intro hi hs hl ls hls
  obtain ⟨e1, e2⟩ := Prod.mk.inj hn
  have hK := zok_k hs.1 (zob_lt hc9)
  have h9 := (hi a ci hK).2.2.2.2.1 j q r e2 hr
  exact zW_getX X F hi hs (by unfold zfv; rw [e1, e2, hr]; rfl) hd (k hi ⟨Or.inl ⟨(hi r q h9).1, h9⟩, hs.2⟩ hl ls hls)
theorem zr_putD (X : zX p l e R s m args below meth c own cc nL ret D b0 tA sa sv) {index ci j a q r : Nat} (F : zFx own index ci j) (hn : (zfk ci j, zfd ci j) = (none, some q)) (hq : q < 24) (hd : decode cc pc = .ok (.putfield index, 3))
    (k : zG p l e R s m args below meth c nL D b0 tA sa cells slots Q (kset K a j r) (pc + 3) lv st I) : zG p l e R s m args below meth c nL D b0 tA sa cells slots Q K pc lv (vr r q :: vr a ci :: st) I := by
  intro hi hs hl ls hls
  obtain ⟨e1, e2⟩ := Prod.mk.inj hn
  have hr := zok_k hs.1 hq
  rcases F with ⟨C, T, N, ty, h1, h2, ⟨h3, h4, h5, h6⟩, h7, h8, h9, h10, h11⟩ | ⟨C, T, N, ty, h1, h2, ⟨h3, h4, h5, h6⟩, h7, h8, h9, h10, h11⟩
  · have hK := zok_k hs.2.1 (zob_lt h4)
    obtain ⟨g1, g2⟩ := h11 (by rw [e2]; intro z; cases z)
    have hcell : Sum.inr (zci ci, (zfl ci a (K.2 a) (I a)).set j (.ref r)) = zcell tA ci a ((kset K a j r).2 a) (I a) := by
      rw [zcell, if_pos h4]
      refine congrArg (fun l => Sum.inr (zci ci, l)) (zfl_set (by omega) ?_ (fun i h => ⟨kset_nj h, rfl⟩))
      unfold zfv
      rw [e1, e2, kset_eq]; rfl
    refine zW_put (ci := zci ci) (fs := zfl ci a (K.2 a) (I a)) X.1 X.2.1 X.2.2.2.2.1 h1 ty h7 h8 X.2.2.2.1 X.2.2.2.2.2.2.1.1 (by rw [zEof_at hK, zcell, if_pos h4]) h2 j h3 (X.2.2.2.2.1 _ h9) h6 g1 (h7 j h3) (g2 r).1 (g2 r).2 (by rw [zfl_len]; omega) hd ?_
    have hz : zup (zEof tA K I) a (.inr (zci ci, (zfl ci a (K.2 a) (I a)).set j (.ref r))) = zEof tA (kset K a j r) I := by
      funext b
      by_cases hb : b = a
      · subst hb; rw [zup, if_pos rfl, zEof_at (K := kset K b j r) hK, hcell]
      · rw [zup, if_neg hb, zEof, zEof, show (kset K a j r).2 b = K.2 b from funext fun i => kset_ne hb]; rfl
    refine cast (congrArg (fun E9 => zW p l e R s m args below meth c D b0 cells slots Q E9 (pc + 3) ls (st.map zv)) hz.symm) ?_
    exact k (zinv_set hi hK hr (fun q9 h => Option.some.inj (h.symm.trans e2)) (fun q9 h => by
      exfalso; revert h; unfold zob at h4; unfold zad; intro h; split at h <;> first | (cases h; done) | (exact absurd h4 (by decide)))) (zoks.ex kset_ex hs.2.2) (zokl.ex kset_ex hl) ls hls
  · have hK := zok_k hs.2.1 (zob_lt h4)
    obtain ⟨g1, g2⟩ := h11 (by rw [e2]; intro z; cases z)
    have hcell : Sum.inr (zci ci, (zfl ci a (K.2 a) (I a)).set j (.ref r)) = zcell tA ci a ((kset K a j r).2 a) (I a) := by
      rw [zcell, if_pos h4]
      refine congrArg (fun l => Sum.inr (zci ci, l)) (zfl_set (by omega) ?_ (fun i h => ⟨kset_nj h, rfl⟩))
      unfold zfv
      rw [e1, e2, kset_eq]; rfl
    refine zW_putN (ci := zci ci) (host := "GateRow") (fs := zfl ci a (K.2 a) (I a)) X.1 X.2.1 X.2.2.2.2.1 h1 ty h7 h8 X.2.2.2.1 X.2.2.2.2.2.2.1.1 (by rw [zEof_at hK, zcell, if_pos h4]) h2 j h3 (va_Nw.use rfl (X.2.2.2.2.2.2.1.2.2.1 _ h9 rfl)) h6 g1 (h7 j h3) (g2 r).1 (g2 r).2 (by rw [zfl_len]; omega) hd ?_
    have hz : zup (zEof tA K I) a (.inr (zci ci, (zfl ci a (K.2 a) (I a)).set j (.ref r))) = zEof tA (kset K a j r) I := by
      funext b
      by_cases hb : b = a
      · subst hb; rw [zup, if_pos rfl, zEof_at (K := kset K b j r) hK, hcell]
      · rw [zup, if_neg hb, zEof, zEof, show (kset K a j r).2 b = K.2 b from funext fun i => kset_ne hb]; rfl
    refine cast (congrArg (fun E9 => zW p l e R s m args below meth c D b0 cells slots Q E9 (pc + 3) ls (st.map zv)) hz.symm) ?_
    exact k (zinv_set hi hK hr (fun q9 h => Option.some.inj (h.symm.trans e2)) (fun q9 h => by
      exfalso; revert h; unfold zob at h4; unfold zad; intro h; split at h <;> first | (cases h; done) | (exact absurd h4 (by decide)))) (zoks.ex kset_ex hs.2.2) (zokl.ex kset_ex hl) ls hls
/-- the class of an array of references that are put there -/
theorem zad_arr {U : State} (hK : zK D b0 tA sa sv l U) {k q : Nat} (h : zad k = some q) : k < 24 ∧ zan k < 2 ^ 31 ∧ zob k = false ∧ zaq k = false ∧ zob q = true ∧ ∃ C : String, ArrOfT U (tA (zac k)) (.object C) ∧ zRA (tA (zac k)) C U ∧ ∃ (T : u_T) (N : Nat), vwCl[zci q]? = some (C, T, N) := by
  obtain ⟨-, ⟨-, -, -, -, -, -, a7, a8, a9, ⟨-, -, -, -, -, -, t7, t8, t9⟩, -, g4, g5, g6⟩, -⟩ := hK
  have : (k = 20 ∧ q = 14) ∨ (k = 21 ∧ q = 8) ∨ (k = 23 ∧ q = 17) := by
    unfold zad at h
    split at h <;> first | (cases h; omega) | cases h
  rcases this with ⟨rfl, rfl⟩ | ⟨rfl, rfl⟩ | ⟨rfl, rfl⟩
  · exact ⟨by decide, by decide, rfl, rfl, rfl, RX9, a7, zRA_of g4 t7, _, _, rfl⟩
  · exact ⟨by decide, by decide, rfl, rfl, rfl, RX8, a8, zRA_of g5 t8, _, _, rfl⟩
  · exact ⟨by decide, by decide, rfl, rfl, rfl, RX12, a9, zRA_of g6 t9, _, _, rfl⟩
theorem zad_cell {k a q : Nat} {r : Nat → Option Nat} {f : Nat → Int32} (h1 : zob k = false) (h2 : zaq k = false) (h3 : zad k = some q) : zcell tA k a r f = .inl (tA (zac k), zan k, .inr (.inr (.inr (.inr r)))) := by
  rw [zcell, if_neg (by rw [h1]; decide), if_neg (by rw [h2]; decide), if_pos (by rw [h3]; rfl)]
theorem zr_aaldD (X : zX p l e R s m args below meth c own cc nL ret D b0 tA sa sv) {k a q n r : Nat} (hk : zad k = some q) (hin : n < zan k) (hr : K.2 a n = some r) (hd : decode cc pc = .ok (.aaload, 1))
    (kk : zG p l e R s m args below meth c nL D b0 tA sa cells slots Q K (pc + 1) lv (vr r q :: st) I) : zG p l e R s m args below meth c nL D b0 tA sa cells slots Q K pc lv (vi (nI n) :: vr a k :: st) I := by
  intro hi hs hl ls hls
  obtain ⟨g1, g2, g3, g4, g5, C, g6, -⟩ := zad_arr X.2.2.2.2.2.2.1 hk
  have hK := zok_k hs.2.1 g1
  have h9 := (hi a k hK).2.2.2.2.2 n q r hk hr
  refine zW_aald (f := K.2 a) (n := zan k) X.1 X.2.1 g6 rfl (by rw [zEof_at hK, zad_cell g3 g4 hk]) (vp_in_nI hin g2) hd ?_
  rw [nI_clamp (by omega), hr]
  exact kk hi ⟨Or.inl ⟨(hi r q h9).1, h9⟩, hs.2.2⟩ hl ls hls
theorem zr_aastD (X : zX p l e R s m args below meth c own cc nL ret D b0 tA sa sv) {k a q n r : Nat} (hk : zad k = some q) (hin : n < zan k) (hd : decode cc pc = .ok (.aastore, 1))
    (kk : zG p l e R s m args below meth c nL D b0 tA sa cells slots Q (kset K a n r) (pc + 1) lv st I) : zG p l e R s m args below meth c nL D b0 tA sa cells slots Q K pc lv (vr r q :: vi (nI n) :: vr a k :: st) I := by
  refine zG_zB X (fun hi hs hl z hz hb => ?_)
  obtain ⟨g1, g2, g3, g4, g5, C, g6, g7, T, N, g8⟩ := zad_arr X.2.2.2.2.2.2.1 hk
  have hK := zok_k hs.2.2.1 g1
  have hr := zok_k hs.1 (zob_lt g5)
  refine zb_aast (k := zac k) (n := zan k) (f := K.2 a) (i := nI n) (ci := zci q) (vs := zfl q r (K.2 r) (I r)) X g7 (by rw [zEof_at hK, zad_cell g3 g4 hk]) (by rw [zEof_at hr, zcell, if_pos g5]) g8 (vp_in_nI hin g2) hd (fun E1 e1 o1 => ?_)
  refine zB_zG (K := kset K a n r) (zinv_set hi hK hr (fun q9 h => ?_) (fun q9 h => Option.some.inj (h.symm.trans hk))) (zoks.ex kset_ex hs.2.2.2) (zokl.ex kset_ex hl) (zEof_set hK (e1.trans ?_) o1) kk
  · exfalso
    revert h; unfold zfd; intro h; split at h <;> first | (cases h; done) | (exact absurd g3 (by decide))
  · rw [zad_cell g3 g4 hk, nI_clamp (by omega)]
    refine congrArg (fun f => some (Sum.inl (tA (zac k), zan k, Sum.inr (Sum.inr (Sum.inr (Sum.inr f)))))) (funext fun i => ?_)
    unfold va_up kset
    dsimp only
    rw [if_pos rfl]
/-- arrays of booleans -/
theorem zr_baldZ (X : zX p l e R s m args below meth c own cc nL ret D b0 tA sa sv) {a n : Nat} (hin : n < 3) (hd : decode cc pc = .ok (.baload, 1))
    (kk : I a n = 0 ∨ I a n = 1 → zG p l e R s m args below meth c nL D b0 tA sa cells slots Q K (pc + 1) lv (vi (I a n) :: st) I) : zG p l e R s m args below meth c nL D b0 tA sa cells slots Q K pc lv (vi (nI n) :: vr a 22 :: st) I := by
  intro hi hs hl ls hls H locs hP hS
  have hK := zok_k (k := 22) hs.2.1 (by decide)
  have hc := (hP a _ (zEof_at hK)).1
  have hb := (hi a 22 hK).2.2.2.1 n rfl
  have hlt : (nI n).toNatClampNeg = n := nI_clamp (by omega)
  refine W.zald (v := .int (I a n)) X.1 X.2.1 (cell := vp_cell (tA 22) (3, .inl (I a))) hc (X.2.2.2.2.2.2.1.2.1.2.2.1 3 (fun j => .int (I a j))) (fun q => by cases q) ?_ ?_ rfl rfl hd (kk hb hi ⟨trivial, hs.2.2⟩ hl ls hls H locs hP hS)
  · show ¬ (nI n < 0 ∨ (arrV _ _ _).slots.size ≤ _)
    rw [arrV_size]; exact vp_in_nI hin (show 3 < 2 ^ 31 by decide)
  · show (arrV _ _ _).slots[_]? = _
    rw [arrV_read _ _ (by rw [hlt]; exact hin), hlt]
theorem zr_bastZ (X : zX p l e R s m args below meth c own cc nL ret D b0 tA sa sv) {a n : Nat} {x : Int32} (hin : n < 3) (hx : x = 0 ∨ x = 1) (hd : decode cc pc = .ok (.bastore, 1))
    (kk : zG p l e R s m args below meth c nL D b0 tA sa cells slots Q K (pc + 1) lv st (zput I a n x)) : zG p l e R s m args below meth c nL D b0 tA sa cells slots Q K pc lv (vi x :: vi (nI n) :: vr a 22 :: st) I := by
  intro hi hs hl ls hls H locs hP hS
  have hK := zok_k (k := 22) hs.2.2.1 (by decide)
  have hc := hP a _ (zEof_at hK)
  have hlt : (nI n).toNatClampNeg = n := nI_clamp (by omega)
  refine W.zast X.1 X.2.1 (cell := vp_cell (tA 22) (3, .inl (I a))) hc.1 (X.2.2.2.2.2.2.1.2.1.2.2.1 3 (fun j => .int (I a j))) (fun q => by cases q) ?_ rfl rfl hd fun H1 e1 z1 oq => ?_
  · show ¬ (nI n < 0 ∨ (arrV _ _ _).slots.size ≤ _)
    rw [arrV_size]; exact vp_in_nI hin (show 3 < 2 ^ 31 by decide)
  · refine kk (zinv_put hi hK (Or.inr hx)) hs.2.2.2 hl ls hls H1 _ ?_ (hS.put z1 oq hc.2)
    have hnar : vp_nar .boolean x = x := by rcases hx with rfl | rfl <;> rfl
    rw [← zEof_put (tA := tA) (I := I) (a := a) (j := n) (x := x) (e := .inl (tA 22, 3, .inl (upd (I a) (nI n).toNatClampNeg (vp_nar .boolean x)))) hK (by rw [hlt, hnar]; rfl)]
    refine hP.set hc.2 ?_ oq
    show H1[a]? = some (vp_cell _ _)
    rw [e1]
    rw [vp_cell_i, vp_cell_i, arrV_store]
    congr 2
    funext q
    by_cases hq : q = (nI n).toNatClampNeg
    · subst hq
      simp [updV, upd, vp_nar]
      try rfl
    · simp [updV, upd, hq]
end ZGR
