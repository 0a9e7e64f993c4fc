/-! ===== what holds at the law's entry: the texts ===== -/
def zFl : List Cond := flatC (Cond.and given_1 narrow_1)
def zTq : List Nat := [115, 122, 130, 138, 145, 151, 159, 167, 175, 183, 474, 482, 487, 492, 504, 517, 531, 540, 549, 556, 564, 570, 75, 190, 206, 228, 245, 261, 286, 302, 318, 343, 376, 400, 451, 579]
theorem zTq_ok : (List.range 36).all (fun i => decide (zFl[zTq.getD i 0]? = some (.exactly (.string (zST.getD i ("", 0, "")).1 (zST.getD i ("", 0, "")).2.1) "java/lang/String"))) = true := by decide +kernel
def zTv (i : Nat) : Term := .field (.string (zST.getD i ("", 0, "")).1 (zST.getD i ("", 0, "")).2.1) "java/lang/String" "value" "[B"
theorem zEy_ok : (List.range 22).all (fun i => decide (zFl[zTq.getD i 0 + 1]? = some (.eq (.field (.string (zST.getD i ("", 0, "")).1 (zST.getD i ("", 0, "")).2.1) "java/lang/String" "coder" "B") (.int 0))) && decide (zFl[zTq.getD i 0 + 2]? = some (.arrayOf (zTv i) .byte)) && decide (zFl[zTq.getD i 0 + 3]? = some (.eq (.length (zTv i)) (.int (nI (zSL.getD i 0)))))) = true := by decide +kernel
theorem zEz_ok : (List.range 22).all (fun i => (List.range (zSL.getD i 0)).all (fun j => decide (zFl[zTq.getD i 0 + 4 + j]? = some (.eq (.elem (zTv i) (.int (nI j))) (.int ((zSB.getD i []).getD j 0)))))) = true := by decide +kernel
theorem zST_get {i : Nat} {q : String × Nat × String} (h : zST[i]? = some q) : i < 36 ∧ zST.getD i ("", 0, "") = q := by
  have h1 := (List.getElem?_eq_some_iff.mp h).1
  refine ⟨h1, ?_⟩
  rw [List.getD_eq_getElem?_getD, h]; rfl
theorem zeq_int {args : Array Value} {s : State} {t : Term} {k : Int32} (h : (Cond.eq t (.int k)).before args s = true) : t.eval args s none [] s = some (.int k) := by
  simp only [Cond.before, Cond.holds, Cond.value, Term.eval] at h
  cases ht : t.eval args s none [] s with
  | none => rw [ht] at h; simp at h
  | some v =>
    rw [ht] at h
    cases v <;> simp_all
theorem zStr_of {args : Array Value} {s : State} {t : Term} {a len : Nat} {byt : List Int32} (hl : len < 2 ^ 31) (hex : (Cond.exactly t "java/lang/String").before args s = true) (ht : t.eval args s none [] s = some (.ref a)) (hco : (Cond.eq (.field t "java/lang/String" "coder" "B") (.int 0)).before args s = true) (harr : (Cond.arrayOf (.field t "java/lang/String" "value" "[B") .byte).before args s = true) (hlen : (Cond.eq (.length (.field t "java/lang/String" "value" "[B")) (.int (nI len))).before args s = true)
    (hel : ∀ j, j < len → (Cond.eq (.elem (.field t "java/lang/String" "value" "[B") (.int (nI j))) (.int (byt.getD j 0))).before args s = true) :
    ∃ v : Nat, va_O "java/lang/String" a (fun q => s.heap.size ≤ q) s s.heap ∧ va_OF "java/lang/String" "coder" "B" (.int 0) a (fun q => s.heap.size ≤ q) s s.heap ∧ va_OF "java/lang/String" "value" "[B" (.ref v) a (fun q => s.heap.size ≤ q) s s.heap ∧ va_T .byte v len (fun j => .int (byt.getD j 0)) (fun q => s.heap.size ≤ q) s s.heap := by
  have hA : ∀ a : Nat, a < s.heap.size → ¬ (fun q => s.heap.size ≤ q) a := fun a h z => Nat.not_le.mpr h z
  obtain ⟨v, hv, hT⟩ := va_Tof (ty := .byte) (N := len) (f := fun j => .int (byt.getD j 0)) hl harr (zeq_int hlen) (fun j hj => zeq_int (hel j hj)) hA
  exact ⟨v, va_Oof hex ht hA, vk_OFof ht (zeq_int hco) hA, vk_OFof ht hv hA, hT⟩
/-- the texts lie somewhere -/
theorem zStrs {s : State} {b : Nat} (hgv : (Cond.and given_1 narrow_1).before #[Value.ref b] s = true) (hts : ∀ w ∈ lw_tbl, w.before #[Value.ref b] s = true) (hw : ∀ (i : Nat) (q : String × Nat × String), zST[i]? = some q → Cond.stringRef q.1 q.2.1 q.2.2 ∈ lw_tbl) :
    ∃ s1 s2 : Nat → Nat, (∀ (i : Nat) (q : String × Nat × String), zST[i]? = some q → vk_R q.1 q.2.1 q.2.2 (s1 i) s) ∧ zSc zSN zSL zSB s1 s2 (fun q => s.heap.size ≤ q) s s.heap := by
  have hf : ∀ (i : Nat) (w : Cond), zFl[i]? = some w → w.before #[Value.ref b] s = true := fun i w h => flat_of_before _ hgv w (List.mem_of_getElem? h)
  have hx : ∀ i, i < 36 → (Cond.exactly (.string (zST.getD i ("", 0, "")).1 (zST.getD i ("", 0, "")).2.1) "java/lang/String").before #[Value.ref b] s = true := fun i hi => hf _ _ (of_decide_eq_true (List.all_eq_true.mp zTq_ok i (List.mem_range.mpr hi)))
  have h1 : ∀ i, ∃ a : Nat, i < 36 → (Term.string (zST.getD i ("", 0, "")).1 (zST.getD i ("", 0, "")).2.1).eval #[Value.ref b] s none [] s = some (.ref a) := fun i => by
    by_cases hi : i < 36
    · obtain ⟨a2, c, cA, kA, q1, -⟩ := Cond.exactly_spec (args := #[Value.ref b]) (first := s) (o := none) (s := s) (idx := []) (hx i hi)
      exact ⟨a2, fun _ => q1⟩
    · exact ⟨0, fun h => absurd h hi⟩
  obtain ⟨s1, hs1⟩ := Classical.axiomOfChoice h1
  have h2 : ∀ i, ∃ v : Nat, i < 22 → va_O "java/lang/String" (s1 i) (fun q => s.heap.size ≤ q) s s.heap ∧ va_OF "java/lang/String" "coder" "B" (.int 0) (s1 i) (fun q => s.heap.size ≤ q) s s.heap ∧ va_OF "java/lang/String" "value" "[B" (.ref v) (s1 i) (fun q => s.heap.size ≤ q) s s.heap ∧ va_T .byte v (zSL.getD i 0) (fun j => .int ((zSB.getD i []).getD j 0)) (fun q => s.heap.size ≤ q) s s.heap := fun i => by
    by_cases hi : i < 22
    · have h3 := List.all_eq_true.mp zEy_ok i (List.mem_range.mpr hi)
      simp only [Bool.and_eq_true, decide_eq_true_eq] at h3
      have h4 := List.all_eq_true.mp zEz_ok i (List.mem_range.mpr hi)
      have hsl : zSL.getD i 0 ≤ 10 := of_decide_eq_true (List.all_eq_true.mp (show (List.range 22).all (fun i => decide (zSL.getD i 0 ≤ 10)) = true by decide +kernel) i (List.mem_range.mpr hi))
      obtain ⟨v, hv⟩ := zStr_of (len := zSL.getD i 0) (byt := zSB.getD i []) (by omega) (hx i (by omega)) (hs1 i (by omega)) (hf _ _ h3.1.1) (hf _ _ h3.1.2) (hf _ _ h3.2) (fun j hj => hf _ _ (of_decide_eq_true (List.all_eq_true.mp h4 j (List.mem_range.mpr hj))))
      exact ⟨v, fun _ => hv⟩
    · exact ⟨0, fun h => absurd h hi⟩
  obtain ⟨s2, hs2⟩ := Classical.axiomOfChoice h2
  refine ⟨s1, s2, fun i q hq => ?_, fun i hi => hs2 i hi⟩
  obtain ⟨hi, e⟩ := zST_get hq
  have h5 := hs1 i hi
  rw [e] at h5
  exact vk_R.of (hts _ (hw i q hq)) h5
theorem zST_tab : zST.all (fun q => tables_1.any (fun w => decide (w = .stringRef q.1 q.2.1 q.2.2))) = true := by decide +kernel
theorem zST_in (i : Nat) (q : String × Nat × String) (h : zST[i]? = some q) : Cond.stringRef q.1 q.2.1 q.2.2 ∈ lw_tbl := by
  have h1 := List.all_eq_true.mp zST_tab q (List.mem_of_getElem? h)
  obtain ⟨w, hw, e⟩ := List.any_eq_true.mp h1
  have e := of_decide_eq_true e
  subst e
  exact List.mem_append_right _ hw
/-- what can't be cast -/
theorem zNC_ok : zNC.all (fun q => zFl.any (fun w => decide (w = .not (.castable q.1 q.2)))) = true := by decide +kernel
theorem zNC_at {s : State} {b : Nat} (hgv : (Cond.and given_1 narrow_1).before #[Value.ref b] s = true) : ∀ q ∈ zNC, va_Nc q.1 q.2 s := by
  intro q hq
  obtain ⟨w, hw, e⟩ := List.any_eq_true.mp (List.all_eq_true.mp zNC_ok q hq)
  have e := of_decide_eq_true e
  subst e
  exact va_Nc.of (flat_of_before _ hgv _ hw)
