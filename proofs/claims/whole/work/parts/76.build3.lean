/-! ===== building: an array of arrays ===== -/
theorem outer_arrV (c : ClassId) (N h : Nat) : ∀ i, Jvm.Free.Multi.outerC c N h i = arrV c N (fun j => if j < i then .ref (h + 1 + j) else .null)
  | 0 => by
    show ({ cls := c, slots := Array.replicate N .null, vm := .none } : Cell) = _
    rw [arrV_new]
    congr 1
  | i + 1 => by
    show (Jvm.Free.Multi.outerC c N h i).setSlot i (.ref (h + 1 + i)) = _
    rw [outer_arrV c N h i, arrV_store]
    congr 1
    funext j
    unfold updV
    by_cases hj : j = i
    · subst hj; rw [if_pos rfl, if_pos (Nat.lt_succ_self _)]
    · rw [if_neg hj]
      dsimp only
      by_cases h2 : j < i
      · rw [if_pos h2, if_pos (by omega)]
      · rw [if_neg h2, if_neg (by omega)]
section ZBLD
variable {p : Program} {l : Launch} {e : Env} {R : Room} {s : State} {m : MethodId} {args : Array Value} {below : List Frame} {meth : Method} {c : Code} {cells slots : Nat} {Q : State → Prop}
variable {cc : ByteArray} {pc nL z : Nat} {D : va_G} {b0 : Nat} {tA : Nat → ClassId} {sa sv : Nat → Nat} {own : String} {ret : Option FieldType} {lv : List (Option AV)} {st : List Value} {E : zE}
theorem zb_multi (X : zX p l e R s m args below meth c own cc nL ret D b0 tA sa sv) {index : Nat} {n k : Int32} {N M : Nat} (hcl : Cond.classLink own index ("[" ++ (FieldType.array .int).toString) ∈ zALL) (harr : Cond.arrayClass .int ∈ zALL) (hT : zTa tA s) (hn : ¬ n < 0) (hk : ¬ k < 0) (hN : n.toNatClampNeg = N) (hM : k.toNatClampNeg = M) (hb : N * 4 ≤ 536870912 ∧ M * 4 ≤ 536870912 ∧ M ≤ 536870912) (hf : cells + (1 + N) ≤ R.cells ∧ slots + (N + N * M) ≤ R.slots) (hd : decode cc pc = .ok (.multianewarray index 2, 4))
    (kk : ∀ E1 : zE, E1 z = some (.inl (tA 16, N, .inr (.inr (.inr (.inr (fun j => if j < N then some (z + 1 + j) else none)))))) → (∀ j, j < N → E1 (z + 1 + j) = some (.inl (tA 10, M, .inl (fun _ => 0)))) → (∀ q, q < z ∨ z + 1 + N ≤ q → E1 q = E q) → zB p l e R s m args below meth c nL D b0 (cells + 1 + N) (slots + N + N * M) Q (z + 1 + N) E1 (pc + 4) lv (.ref z :: st)) : zB p l e R s m args below meth c nL D b0 cells slots Q z E pc lv (.int k :: .int n :: st) := by
  intro ls hls H locs hz hP hS T hTT XS
  subst hN
  subst hM
  have hts := X.2.2.2.2.1
  have hb0 : b0 ≤ z := by have := X.2.2.2.2.2.2.1.2.2.2.1; have := hS.1; omega
  obtain ⟨vm₁, cA, comp, hW, hfA, hfC, hO, hI, X1, step⟩ := XS.multianewarray2F X.1 (ty := .int) X.2.2.2.1 (hts _ hcl) hT.2.2.2.2.2.2.2.2.2.2 (hts _ harr) (g := F0 m pc ls (.int k :: .int n :: st)) rfl (by rw [X.2.1]; exact hd) rfl hn hk hb.1 hb.2.1 hb.2.2 rfl rfl hf.1 hf.2
  have hcA : tA 16 = cA := Option.some.inj (hT.2.2.2.2.2.2.1.symm.trans hfA)
  have hco : tA 10 = comp := Option.some.inj (hT.2.1.symm.trans hfC)
  subst hcA
  subst hco
  have hz9 : (T.setVm vm₁).heap.size = z := by show T.heap.size = z; rw [hTT]; exact hz
  obtain ⟨f1, f2, -, -⟩ := Jvm.Free.Multi.fill_facts (T.setVm vm₁) (tA 16) (tA 10) n.toNatClampNeg k.toNatClampNeg (defaultValue .int) n.toNatClampNeg
  have f3 := Jvm.Free.Multi.fill_inner (T.setVm vm₁) (tA 16) (tA 10) n.toNatClampNeg k.toNatClampNeg (defaultValue .int) n.toNatClampNeg
  have f4 : ∀ q : Nat, q < z → (Jvm.Free.Multi.fill (T.setVm vm₁) (tA 16) (tA 10) n.toNatClampNeg k.toNatClampNeg (defaultValue .int) n.toNatClampNeg).heap[q]? = H[q]? := fun q hq => by
    rw [Jvm.Free.Multi.fill_old (T.setVm vm₁) (tA 16) (tA 10) n.toNatClampNeg k.toNatClampNeg (defaultValue .int) (a := q) (by rw [hz9]; exact hq)]
    show T.heap[q]? = _
    rw [hTT]
  rw [hz9] at f1 f2 f3
  generalize hF : Jvm.Free.Multi.fill (T.setVm vm₁) (tA 16) (tA 10) n.toNatClampNeg k.toNatClampNeg (defaultValue .int) n.toNatClampNeg = T1 at X1 step f1 f2 f3 f4
  have e1 : T1.heap[z]? = some (vp_cell (tA 16) (n.toNatClampNeg, .inr (.inr (.inr (.inr (fun j => if j < n.toNatClampNeg then some (z + 1 + j) else none)))))) := by
    rw [f2, outer_arrV, vp_cell_q]
    congr 2
    funext j
    by_cases hj : j < n.toNatClampNeg
    · rw [if_pos hj, if_pos hj]; rfl
    · rw [if_neg hj, if_neg hj]; rfl
  have e2 : ∀ j, j < n.toNatClampNeg → T1.heap[z + 1 + j]? = some (vp_cell (tA 10) (k.toNatClampNeg, .inl (fun _ => 0))) := fun j hj => by
    rw [f3 j hj, vp_cell_i]
    show some ({ cls := tA 10, slots := Array.replicate k.toNatClampNeg (.int 0), vm := .none } : Cell) = _
    rw [arrV_new]
  let E1 : zE := fun q => if q = z then some (.inl (tA 16, n.toNatClampNeg, .inr (.inr (.inr (.inr (fun j => if j < n.toNatClampNeg then some (z + 1 + j) else none)))))) else if z < q ∧ q < z + 1 + n.toNatClampNeg then some (.inl (tA 10, k.toNatClampNeg, .inl (fun _ => 0))) else E q
  have hP1 : zhp D b0 E1 T1.heap := by
    intro q f hq
    by_cases q1 : q = z
    · have hq2 : E1 q = some (.inl (tA 16, n.toNatClampNeg, .inr (.inr (.inr (.inr (fun j => if j < n.toNatClampNeg then some (z + 1 + j) else none)))))) := if_pos q1
      rw [hq2] at hq
      cases hq
      rw [q1]
      exact ⟨e1, hb0⟩
    · by_cases q2 : z < q ∧ q < z + 1 + n.toNatClampNeg
      · have hq2 : E1 q = some (.inl (tA 10, k.toNatClampNeg, .inl (fun _ => 0))) := (if_neg q1).trans (if_pos q2)
        rw [hq2] at hq
        cases hq
        obtain ⟨j, rfl⟩ : ∃ j, q = z + 1 + j := ⟨q - (z + 1), by omega⟩
        exact ⟨e2 j (by omega), by omega⟩
      · have hq2 : E1 q = E q := (if_neg q1).trans (if_neg q2)
        rw [hq2] at hq
        have h9 : q < H.size := (hP q f hq).1.lt
        exact ⟨(hP q f hq).1.kept (f4 q (by omega)), (hP q f hq).2⟩
  have hS1 : va_S (fun q => b0 ≤ q) s.heap T1.heap locs := ⟨by have := hS.1; omega, fun x h1 h2 => (f4 x (by have := hS.1; omega)).trans (hS.2.1 x h1 h2), hS.2.2⟩
  obtain ⟨t, a1, b1⟩ := kk E1 (if_pos rfl) (fun j hj => (if_neg (by omega)).trans (if_pos (by omega))) (fun q hq => (if_neg (by omega)).trans (if_neg (by omega))) ls hls T1.heap locs (by omega) hP1 hS1 T1 rfl X1
  refine ⟨t, step t ?_, b1⟩
  have hTs : T.heap.size = z := by rw [hTT]; exact hz
  rw [hTs]
  exact a1
theorem zb_more (X : zX p l e R s m args below meth c own cc nL ret D b0 tA sa sv) {k n : Nat} (h1 : cells ≤ k) (h2 : slots ≤ n) (kk : zB p l e R s m args below meth c nL D b0 k n Q z E pc lv st) : zB p l e R s m args below meth c nL D b0 cells slots Q z E pc lv st :=
  fun ls hls H locs hz hP hS T hT XS => kk ls hls H locs hz hP hS T hT (stand_widen XS h1 h2)
end ZBLD
