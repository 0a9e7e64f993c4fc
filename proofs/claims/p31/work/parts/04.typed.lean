/-! ===== MY OWN LAYER 2: values with the kind of what they point at; a heap of kinds K and numbers I; rows over them ===== -/
/-- the String constants: class, place in its pool, text; those that are read come first -/
def zST : List (String × Nat × String) := [("GateRow$SetupReader", 66, "row"), ("GateRow$SetupReader", 21, "gate"), ("GateRow$SetupReader", 87, "both"), ("GateRow$SetupReader", 89, "out"), ("GateRow$SetupReader", 91, "in"), ("GateRow$SetupReader", 30, "card"), ("GateRow$SetupReader", 35, "list"), ("GateRow$SetupReader", 40, "wait"), ("GateRow$SetupReader", 45, "tick"), ("GateRow$SetupReader", 50, "key"), ("GateRowLaw", 130, "row "), ("GateRowLaw", 139, " "), ("GateRowLaw", 141, ";"), ("GateRowLaw", 157, "gate in;"), ("GateRowLaw", 159, "gate out;"), ("GateRowLaw", 161, "gate both;"), ("GateRowLaw", 173, "card "), ("GateRowLaw", 182, "wait "), ("GateRowLaw", 184, " in"), ("GateRowLaw", 186, " out"), ("GateRowLaw", 188, " ;"), ("GateRowLaw", 190, "tick "), ("GateRow", 282, "length is not that of buffered bytes"), ("GateRow", 289, "no such gate"), ("GateRow", 297, "side is not 0 or 1"), ("GateRow", 129, "no such place"), ("GateRow", 295, "no such card"), ("GateRow", 299, "ticks is out of range"), ("GateRow", 195, "no such rank"), ("GateRow", 226, "they are due"), ("GateRow", 239, "trips is out of range"), ("GateRow", 244, "there would be too many trips"), ("GateRow", 246, "mode is out of range"), ("GateRow", 251, "paddles are open, or people would not be served"), ("GateRow", 256, "key is out of range"), ("GateRow", 80, "what is out of range")]
/-- of the first 22: lengths, signs -/
def zSN : Nat := 22
def zSL : List Nat := [3, 4, 4, 3, 2, 4, 4, 4, 4, 3, 4, 1, 1, 8, 9, 10, 5, 5, 3, 4, 2, 5]
def zSB : List (List Int32) := [[114, 111, 119], [103, 97, 116, 101], [98, 111, 116, 104], [111, 117, 116], [105, 110], [99, 97, 114, 100], [108, 105, 115, 116], [119, 97, 105, 116], [116, 105, 99, 107], [107, 101, 121], [114, 111, 119, 32], [32], [59], [103, 97, 116, 101, 32, 105, 110, 59], [103, 97, 116, 101, 32, 111, 117, 116, 59], [103, 97, 116, 101, 32, 98, 111, 116, 104, 59], [99, 97, 114, 100, 32], [119, 97, 105, 116, 32], [32, 105, 110], [32, 111, 117, 116], [32, 59], [116, 105, 99, 107, 32]]
/-- classes of which one can't be cast to the other -/
def zNC : List (String × String) := [("GateRow", "java/lang/IllegalArgumentException"), ("GateRow", "java/lang/IllegalStateException"), ("GateRow", "java/lang/IndexOutOfBoundsException"), ("GateRow", "java/util/NoSuchElementException"), ("GateRow$Card", "java/lang/IllegalArgumentException"), ("GateRow$Card", "java/lang/IllegalStateException"), ("GateRow$Card", "java/lang/IndexOutOfBoundsException"), ("GateRow$Card", "java/util/NoSuchElementException"), ("GateRow$Gate", "java/lang/IllegalArgumentException"), ("GateRow$Gate", "java/lang/IllegalStateException"), ("GateRow$Gate", "java/lang/IndexOutOfBoundsException"), ("GateRow$Gate", "java/util/NoSuchElementException"), ("GateRow$History", "java/lang/IllegalArgumentException"), ("GateRow$History", "java/lang/IllegalStateException"), ("GateRow$History", "java/lang/IndexOutOfBoundsException"), ("GateRow$History", "java/util/NoSuchElementException"), ("GateRow$Input", "java/lang/IllegalArgumentException"), ("GateRow$Input", "java/lang/IllegalStateException"), ("GateRow$Input", "java/lang/IndexOutOfBoundsException"), ("GateRow$Input", "java/util/NoSuchElementException"), ("GateRow$Line", "java/lang/IllegalArgumentException"), ("GateRow$Line", "java/lang/IllegalStateException"), ("GateRow$Line", "java/lang/IndexOutOfBoundsException"), ("GateRow$Line", "java/util/NoSuchElementException"), ("GateRow$Row", "java/lang/IllegalArgumentException"), ("GateRow$Row", "java/lang/IllegalStateException"), ("GateRow$Row", "java/lang/IndexOutOfBoundsException"), ("GateRow$Row", "java/util/NoSuchElementException"), ("GateRow$SetupReader", "java/lang/IllegalArgumentException"), ("GateRow$SetupReader", "java/lang/IllegalStateException"), ("GateRow$SetupReader", "java/lang/IndexOutOfBoundsException"), ("GateRow$SetupReader", "java/util/NoSuchElementException"), ("GateRowLaw$Card", "java/lang/IllegalArgumentException"), ("GateRowLaw$Card", "java/lang/IllegalStateException"), ("GateRowLaw$Card", "java/lang/IndexOutOfBoundsException"), ("GateRowLaw$Card", "java/util/NoSuchElementException"), ("GateRowLaw$Gate", "java/lang/IllegalArgumentException"), ("GateRowLaw$Gate", "java/lang/IllegalStateException"), ("GateRowLaw$Gate", "java/lang/IndexOutOfBoundsException"), ("GateRowLaw$Gate", "java/util/NoSuchElementException"), ("GateRowLaw$Line", "java/lang/IllegalArgumentException"), ("GateRowLaw$Line", "java/lang/IllegalStateException"), ("GateRowLaw$Line", "java/lang/IndexOutOfBoundsException"), ("GateRowLaw$Line", "java/util/NoSuchElementException"), ("GateRowLaw$Random", "java/lang/IllegalArgumentException"), ("GateRowLaw$Random", "java/lang/IllegalStateException"), ("GateRowLaw$Random", "java/lang/IndexOutOfBoundsException"), ("GateRowLaw$Random", "java/util/NoSuchElementException"), ("GateRowLaw$Station", "java/lang/IllegalArgumentException"), ("GateRowLaw$Station", "java/lang/IllegalStateException"), ("GateRowLaw$Station", "java/lang/IndexOutOfBoundsException"), ("GateRowLaw$Station", "java/util/NoSuchElementException"), ("java/lang/IllegalArgumentException", "java/lang/IllegalStateException"), ("java/lang/IllegalArgumentException", "java/lang/IndexOutOfBoundsException"), ("java/lang/IllegalArgumentException", "java/util/NoSuchElementException"), ("java/lang/IllegalStateException", "java/lang/IllegalArgumentException"), ("java/lang/IllegalStateException", "java/lang/IndexOutOfBoundsException"), ("java/lang/IllegalStateException", "java/util/NoSuchElementException"), ("java/lang/IndexOutOfBoundsException", "java/lang/IllegalArgumentException"), ("java/lang/IndexOutOfBoundsException", "java/lang/IllegalStateException"), ("java/lang/IndexOutOfBoundsException", "java/util/NoSuchElementException"), ("java/util/NoSuchElementException", "java/lang/IllegalArgumentException"), ("java/util/NoSuchElementException", "java/lang/IllegalStateException"), ("java/util/NoSuchElementException", "java/lang/IndexOutOfBoundsException")]

/-- a value: an int; a reference (address, kind); a long; a float; a double -/
abbrev AV : Type := Int32 ⊕ (Nat × Nat) ⊕ Int64 ⊕ UInt32 ⊕ UInt64
abbrev vi (x : Int32) : AV := .inl x
abbrev vr (a k : Nat) : AV := .inr (.inl (a, k))
abbrev vl (x : Int64) : AV := .inr (.inr (.inl x))
abbrev vf (x : UInt32) : AV := .inr (.inr (.inr (.inl x)))
abbrev vd (x : UInt64) : AV := .inr (.inr (.inr (.inr x)))
def zv : AV → Value
  | .inl x => .int x
  | .inr (.inl q) => .ref q.1
  | .inr (.inr (.inl x)) => .long x
  | .inr (.inr (.inr (.inl x))) => .float x
  | .inr (.inr (.inr (.inr x))) => .double x
/-- one slot wide -/
def z1 : Option AV → Bool
  | some (.inr (.inr (.inl _))) => false
  | some (.inr (.inr (.inr (.inr _)))) => false
  | _ => true
/-- kinds 0..7: objects of the class's classes; 8 the law's Card; 9 byte[500]; 10 int[10]; 11 Card[12]; 12 Gate[6]; 13 Row[8]; 14 the law's Gate; 15 its Line; 16 Random; 17 Station; 18 int[11]; 19 int[8]; 20 the law's Gate[6]; 21 its Card[12]; 22 boolean[3]; 23 Station[40]; from 24 on: a String constant by its place -/
abbrev zKt : Type := (Nat → Option Nat) × (Nat → Nat → Option Nat)
def zob (k : Nat) : Bool := decide (k < 9) || (decide (14 ≤ k) && decide (k < 18))
/-- an object's class among those of vwCl -/
def zci (k : Nat) : Nat := if k < 9 then k else k - 5
def zfn : Nat → Nat
  | 0 => 5 | 1 => 9 | 2 => 3 | 3 => 9 | 4 => 2 | 5 => 16 | 6 => 2 | 7 => 7 | 8 => 4 | 14 => 9 | 15 => 2 | 16 => 1 | 17 => 15 | _ => 0
/-- a field that holds a reference: how far on what it points at lies, and of what kind it is -/
def zfk : Nat → Nat → Option (Nat × Nat)
  | 1, 0 => some (1, 4) | 1, 1 => some (3, 4)
  | 2, 0 => some (1, 13)
  | 3, 0 => some (1, 9)
  | 4, 0 => some (1, 10)
  | 5, 0 => some (1, 12) | 5, 1 => some (2, 11)
  | 7, 0 => some (1, 3) | 7, 1 => some (3, 6) | 7, 2 => some (4, 5) | 7, 3 => some (49, 5) | 7, 4 => some (94, 5) | 7, 5 => some (139, 2)
  | _, _ => none
/-- the boolean fields -/
def zfb : Nat → Nat → Bool
  | 0, 2 => true | 0, 3 => true | 1, 5 => true | 8, 1 => true | 8, 2 => true | 14, 3 => true | 22, _ => true | _, _ => false
/-- a field that holds a reference that is put there: the kind of what it points at -/
def zfd : Nat → Nat → Option Nat
  | 14, 7 => some 15 | 14, 8 => some 15 | 15, 1 => some 18 | 17, 5 => some 20 | 17, 7 => some 21 | 17, 8 => some 22 | _, _ => none
/-- arrays of references that are put there -/
def zad : Nat → Option Nat
  | 20 => some 14 | 21 => some 8 | 23 => some 17 | _ => none
/-- arrays: how long -/
def zan : Nat → Nat
  | 9 => 500 | 10 => 10 | 11 => 12 | 12 => 6 | 13 => 8 | 18 => 11 | 19 => 8 | 20 => 6 | 21 => 12 | 22 => 3 | 23 => 40 | _ => 0
/-- arrays of references: where the first thing lies, how far they are apart, of what kind they are -/
def zak : Nat → Nat × Nat × Nat
  | 11 => (31, 1, 0) | 12 => (2, 5, 1) | 13 => (1, 45, 5) | _ => (0, 0, 99)
/-- the class of an array, among those of the tables (9 byte[], 10 int[], 11 Card[], 12 Gate[], 13 Row[], 20 the law's Gate[], 21 its Card[], 22 boolean[], 23 Station[]) -/
def zac : Nat → Nat
  | 18 => 10 | 19 => 10 | k => k
def zaq : Nat → Bool
  | 11 => true | 12 => true | 13 => true | _ => false
abbrev zI : Type := Nat → Nat → Int32
/-- what a field holds -/
def zfv (k a j : Nat) (r : Option Nat) (x : Int32) : Value := match zfk k j with | some q => .ref (a + q.1) | none => (match zfd k j with | some _ => va_rf r | none => .int x)
def zfl (k a : Nat) (r : Nat → Option Nat) (f : Nat → Int32) : List Value := (List.range (zfn k)).map (fun j => zfv k a j (r j) (f j))
def zcell (tA : Nat → ClassId) (k a : Nat) (r : Nat → Option Nat) (f : Nat → Int32) : va_E :=
  if zob k = true then .inr (zci k, zfl k a r f)
  else if zaq k = true then .inl (tA (zac k), zan k, .inr (.inr (.inr (.inr (fun j => some (a + (zak k).1 + (zak k).2.1 * j))))))
  else if (zad k).isSome = true then .inl (tA (zac k), zan k, .inr (.inr (.inr (.inr r))))
  else .inl (tA (zac k), zan k, .inl f)
def zput (I : zI) (a j : Nat) (x : Int32) : zI := fun q i => if q = a then (if i = j then x else I q i) else I q i
def zEof (tA : Nat → ClassId) (K : zKt) (I : zI) : Nat → Option va_E := fun a => (K.1 a).map (fun k => zcell tA k a (K.2 a) (I a))
/-- what points at what is closed; boolean fields hold 0 or 1 -/
def zinv (K : zKt) (I : zI) : Prop := ∀ a k : Nat, K.1 a = some k → k < 24 ∧ (∀ (j : Nat) (q : Nat × Nat), zfk k j = some q → K.1 (a + q.1) = some q.2) ∧ (zaq k = true → ∀ j : Nat, j < zan k → K.1 (a + (zak k).1 + (zak k).2.1 * j) = some (zak k).2.2) ∧ (∀ j : Nat, zfb k j = true → I a j = 0 ∨ I a j = 1) ∧ (∀ j q r : Nat, zfd k j = some q → K.2 a j = some r → K.1 r = some q) ∧ (∀ j q r : Nat, zad k = some q → K.2 a j = some r → K.1 r = some q)
/-- a value that is what it says -/
def zok (sa : Nat → Nat) (K : zKt) : AV → Prop
  | .inr (.inl q) => (q.2 < 24 ∧ K.1 q.1 = some q.2) ∨ (24 ≤ q.2 ∧ q.2 < 84 ∧ q.1 = sa (q.2 - 24))
  | _ => True
def zoks (sa : Nat → Nat) (K : zKt) : List AV → Prop
  | [] => True
  | v :: r => zok sa K v ∧ zoks sa K r
def zokl (sa : Nat → Nat) (K : zKt) (lv : List (Option AV)) : Prop := ∀ (j : Nat) (v : AV), lv[j]? = some (some v) → zok sa K v
def zlv (ls : Array Slot) (nL : Nat) (lv : List (Option AV)) : Prop := ∃ l : List (Nat × Value), lv_has ls nL l ∧ ∀ (j : Nat) (v : AV), lv[j]? = some (some v) → (j, zv v) ∈ l
theorem zlv_at {ls : Array Slot} {nL : Nat} {lv : List (Option AV)} (h : zlv ls nL lv) {j : Nat} {v : AV} (hv : lv[j]? = some (some v)) : ls[j]? = some (.val (zv v)) := by
  obtain ⟨l, h1, h2⟩ := h
  exact h1.2.2 _ (h2 j v hv)
theorem zokl_set {sa : Nat → Nat} {K : zKt} {lv : List (Option AV)} (h : zokl sa K lv) (i : Nat) {v : AV} (hv : zok sa K v) : zokl sa K (lv.set i (some v)) := by
  intro j w hw
  by_cases e : i = j
  · subst e
    rw [List.getElem?_set] at hw
    simp only [if_true] at hw
    split at hw
    · cases hw; exact hv
    · cases hw
  · rw [List.getElem?_set_ne e] at hw
    exact h j w hw
theorem zcat1 {v : AV} (h : z1 (some v) = true) : (zv v).category = 1 := by
  obtain x | q | x | x | x := v <;> first | rfl | (simp [z1] at h)
/-- a store of one slot, as the kit's own rows lay the new list -/
theorem zlv_store {ls' : Array Slot} {nL i : Nat} {lv : List (Option AV)} {l : List (Nat × Value)} {v : AV} (h2 : ∀ (j : Nat) (w : AV), lv[j]? = some (some w) → (j, zv w) ∈ l) (hz : ∀ k : Nat, k + 1 = i → ∀ w, lv[k]? = some w → z1 w = true)
    (h : lv_has ls' nL ((i, zv v) :: l.filter (fun q => !(q.1 == i) && !(q.1 + 1 == i && q.2.category == 2)))) : zlv ls' nL (lv.set i (some v)) := by
  refine ⟨_, h, fun j w hw => ?_⟩
  by_cases e : i = j
  · subst e
    rw [List.getElem?_set] at hw
    simp only [if_true] at hw
    split at hw
    · cases hw; exact List.mem_cons_self
    · cases hw
  · rw [List.getElem?_set_ne e] at hw
    refine List.mem_cons_of_mem _ (List.mem_filter.mpr ⟨h2 j w hw, ?_⟩)
    have e1 : (j == i) = false := by simp [Ne.symm e]
    by_cases e2 : j + 1 = i
    · have h9 := hz j e2 _ hw
      have h8 := zcat1 h9
      simp [e1, h8]
    · simp [e1, e2]
/-- the texts that are read: what they hold -/
def zSc (N : Nat) (len : List Nat) (byt : List (List Int32)) (adK adV : Nat → Nat) (A : Nat → Prop) (U : State) (H : Heap) : Prop :=
  ∀ i : Nat, i < N → va_O "java/lang/String" (adK i) A U H ∧ va_OF "java/lang/String" "coder" "B" (.int 0) (adK i) A U H ∧ va_OF "java/lang/String" "value" "[B" (.ref (adV i)) (adK i) A U H ∧ va_T .byte (adV i) (len.getD i 0) (fun j => .int ((byt.getD i []).getD j 0)) A U H
def zAO (ty : FieldType) (U : State) : Prop := (Cond.arrayOver ty).before #[] U = true
theorem zAO.moved {ty : FieldType} {u U : State} (hvm : u.vm.Alike U.vm) (h : zAO ty u) : zAO ty U := by
  have h2 : (Cond.arrayOver ty).before #[] (u.setVm U.vm) = true := (Jvm.Cond.arrayOver_setVmC (args := #[]) hvm ty).trans h
  unfold zAO
  simp only [Cond.before, Cond.holds, Cond.value, State.vm_setVm] at h2 ⊢
  exact h2
/-- the classes of arrays by their names -/
def zTa (tA : Nat → ClassId) (U : State) : Prop :=
  (U.vm.findClass ("[" ++ (FieldType.byte).toString) = some (tA 9) ∧ U.vm.findClass ("[" ++ (FieldType.int).toString) = some (tA 10) ∧ U.vm.findClass ("[" ++ (FieldType.boolean).toString) = some (tA 22) ∧
  U.vm.findClass ("[" ++ (FieldType.object RX0).toString) = some (tA 11) ∧ U.vm.findClass ("[" ++ (FieldType.object RX1).toString) = some (tA 12) ∧ U.vm.findClass ("[" ++ (FieldType.object RX5).toString) = some (tA 13) ∧
  U.vm.findClass ("[" ++ (FieldType.object RX9).toString) = some (tA 20) ∧ U.vm.findClass ("[" ++ (FieldType.object RX8).toString) = some (tA 21) ∧ U.vm.findClass ("[" ++ (FieldType.object RX12).toString) = some (tA 23)) ∧
  (zAO (.object RX0) U ∧ zAO (.object RX1) U ∧ zAO (.object RX5) U) ∧ zAO (.object RX9) U ∧ zAO (.object RX8) U ∧ zAO (.object RX12) U
theorem zTa.moved {tA : Nat → ClassId} {u U : State} (hvm : u.vm.Alike U.vm) (h : zTa tA u) : zTa tA U := by
  obtain ⟨⟨h1, h2, h3, h4, h5, h6, h7, h8, h9⟩, ⟨g1, g2, g3⟩, g4, g5, g6⟩ := h
  refine ⟨⟨?_, ?_, ?_, ?_, ?_, ?_, ?_, ?_, ?_⟩, ⟨g1.moved hvm, g2.moved hvm, g3.moved hvm⟩, g4.moved hvm, g5.moved hvm, g6.moved hvm⟩ <;> (rw [hvm.findClass]; assumption)
/-- what holds all the time: the tables' facts of the classes and of arrays, the words of nest mates, two statics of Throwable, the texts -/
def zK (D : va_G) (b0 : Nat) (tA : Nat → ClassId) (sa sv : Nat → Nat) (l : Launch) (U : State) : Prop :=
  va_K D vwCl [] U ∧ (ArrOfT U (tA 9) .byte ∧ ArrOfT U (tA 10) .int ∧ ArrOfT U (tA 22) .boolean ∧ ArrOfT U (tA 11) (.object RX0) ∧ ArrOfT U (tA 12) (.object RX1) ∧ ArrOfT U (tA 13) (.object RX5) ∧ ArrOfT U (tA 20) (.object RX9) ∧ ArrOfT U (tA 21) (.object RX8) ∧ ArrOfT U (tA 23) (.object RX12) ∧ zTa tA U) ∧
  (∀ w ∈ lw_tbl, zNest w = true → va_Nw w U) ∧ b0 ≤ U.heap.size ∧ vx_Zq Bundle.tN "UNASSIGNED_STACK" Bundle.steD (fun q => b0 ≤ q) U U.heap ∧ vx_Zq Bundle.tN "SUPPRESSED_SENTINEL" Bundle.listD (fun q => b0 ≤ q) U U.heap ∧
  (∀ (i : Nat) (q : String × Nat × String), zST[i]? = some q → vk_R q.1 q.2.1 q.2.2 (sa i) U) ∧ zSc zSN zSL zSB sa (fun i => sa (38 + i)) (fun q => b0 ≤ q) U U.heap ∧ (∀ q ∈ zNC, va_Nc q.1 q.2 U) ∧ l.stackTraces = false ∧
  va_Z "java/lang/String" "COMPACT_STRINGS" "Z" (.int 1) (fun q => b0 ≤ q) U U.heap ∧ va_Zq "jdk/internal/util/Preconditions" "SIOOBE_FORMATTER" "Ljava/util/function/BiFunction;" (fun q => b0 ≤ q) U U.heap ∧ va_T .int (sa 37) (sv 0) (fun j => .int (Int32.ofNat (sv (1 + j)))) (fun q => b0 ≤ q) U U.heap ∧ sv 0 ≤ 260
theorem zK.moved {D : va_G} {b0 : Nat} {tA : Nat → ClassId} {sa sv : Nat → Nat} {l : Launch} {u U : State} {locs : List Loc} (h : zK D b0 tA sa sv l u) (hW : u.vm.Alike U.vm) (hW2 : u.WarmedH U.vm) (hS : va_S (fun q => b0 ≤ q) u.heap U.heap locs) : zK D b0 tA sa sv l U := by
  obtain ⟨h1, ⟨a1, a2, a3, a4, a5, a6, a7, a8, a9, b1⟩, h2, h3, h4, h5, h6, h7, h8, h9, g1, g2, g3, g4⟩ := h
  refine ⟨va_K.moved hW h1, ⟨arrOfT_moved hW a1, arrOfT_moved hW a2, arrOfT_moved hW a3, arrOfT_moved hW a4, arrOfT_moved hW a5, arrOfT_moved hW a6, arrOfT_moved hW a7, arrOfT_moved hW a8, arrOfT_moved hW a9, b1.moved hW⟩, fun w hw hn => zNest_warm hn hW2 (h2 w hw hn), Nat.le_trans h3 hS.1, vx_Zq.moved hW (h4.kept hS.2.1), vx_Zq.moved hW (h5.kept hS.2.1), fun i q hq => (h6 i q hq).warm hW2, fun i hi => ?_, fun q hq => va_Nc.moved hW (h8 q hq), h9, va_Z.moved hW (g1.kept hS.2.1), va_Zq.moved hW (va_Zq.kept g2 hS.2.1), va_T.moved hW (g3.kept hS.2.1), g4⟩
  obtain ⟨q1, q2, q3, q4⟩ := h7 i hi
  exact ⟨va_O.moved hW (q1.kept hS.2.1), va_OF.moved hW (q2.kept hS.2.1), va_OF.moved hW (q3.kept hS.2.1), va_T.moved hW (q4.kept hS.2.1)⟩
/-- what holds in a method's body -/
def zX (p : Program) (l : Launch) (_ : Env) (_ : Room) (s : State) (m : MethodId) (args : Array Value) (_ : List Frame) (meth : Method) (c : Code) (own : String) (cc : ByteArray) (nL : Nat) (ret : Option FieldType) (D : va_G) (b0 : Nat) (tA : Nat → ClassId) (sa sv : Nat → Nat) : Prop :=
  p.tables.exec = Jvm.exec ∧ c.code = cc ∧ c.maxLocals = nL ∧ s.vm.findClass own = some m.cls ∧ (∀ w ∈ zALL, w.before args s = true) ∧ meth.locks = false ∧ zK D b0 tA sa sv l s ∧ meth.sig.returnType = ret
/-- a walk, said of the numbers alone -/
def zG (p : Program) (l : Launch) (e : Env) (R : Room) (s : State) (m : MethodId) (args : Array Value) (below : List Frame) (meth : Method) (c : Code) (nL : Nat) (D : va_G) (b0 : Nat) (tA : Nat → ClassId) (sa : Nat → Nat) (cells slots : Nat) (Q : State → Prop) (K : zKt) (pc : Nat) (lv : List (Option AV)) (st : List AV) (I : zI) : Prop :=
  zinv K I → zoks sa K st → zokl sa K lv → ∀ ls : Array Slot, zlv ls nL lv → zW p l e R s m args below meth c D b0 cells slots Q (zEof tA K I) pc ls (st.map zv)
/-- what a body owes: it returns r with Qp, or throws with Xp -/
def zQc (D : va_G) (b0 : Nat) (tA : Nat → ClassId) (sa : Nat → Nat) (K : zKt) (Qp : zI → Option AV → Prop) : Array Value → State → Outcome → State → Prop := fun _ st oc t =>
  (∃ (I : zI) (r : Option AV), oc = .returned (r.map zv) ∧ Qp I r ∧ (∀ v, r = some v → zok sa K v) ∧ zinv K I ∧ zhp D b0 (zEof tA K I) t.heap) ∧ va_F (fun q => b0 ≤ q) st t
def zXc (D : va_G) (b0 : Nat) (tA : Nat → ClassId) (K : zKt) (Xp : String → zI → Prop) : String → State → State → Prop := fun E st t =>
  (∃ I : zI, Xp E I ∧ zinv K I ∧ zhp D b0 (zEof tA K I) t.heap) ∧ va_F (fun q => b0 ≤ q) st t
def zPc (D : va_G) (b0 : Nat) (tA : Nat → ClassId) (sa sv : Nat → Nat) (l : Launch) (K : zKt) (I : zI) (av : List AV) : Array Value → State → Prop := fun v U =>
  v = (av.map zv).toArray ∧ zinv K I ∧ zoks sa K av ∧ zhp D b0 (zEof tA K I) U.heap ∧ zK D b0 tA sa sv l U
/-- a method's contract: called with av over I -/
def zC (l : Launch) (D : va_G) (b0 : Nat) (tA : Nat → ClassId) (sa sv : Nat → Nat) (K : zKt) (y : MethodName) (w : Cond) (rm : Room) (av : List AV) (I : zI) (Qp : zI → Option AV → Prop) (Xp : String → zI → Prop) : Prop :=
  vx_Met l y (w :: zALL) rm (zPc D b0 tA sa sv l K I av) (zQc D b0 tA sa K Qp) (zXc D b0 tA K Xp) rm.cells rm.slots (fun q => b0 ≤ q)
/-- what a body's walk leads to -/
abbrev zQ (below : List Frame) (D : va_G) (b0 : Nat) (tA : Nat → ClassId) (sa : Nat → Nat) (K : zKt) (args : Array Value) (s : State) (rm : Room) (Qp : zI → Option AV → Prop) (Xp : String → zI → Prop) : State → Prop :=
  vx_MQ below (zQc D b0 tA sa K Qp) (zXc D b0 tA K Xp) args s rm.cells rm.slots (fun q => b0 ≤ q)
theorem zEof_at {tA : Nat → ClassId} {K : zKt} {I : zI} {a k : Nat} (h : K.1 a = some k) : zEof tA K I a = some (zcell tA k a (K.2 a) (I a)) := by rw [zEof, h]; rfl
theorem zfl_get {k a j : Nat} {r : Nat → Option Nat} {f : Nat → Int32} (hj : j < zfn k) : (zfl k a r f)[j]? = some (zfv k a j (r j) (f j)) := by
  rw [zfl, List.getElem?_map, List.getElem?_range hj]; rfl
theorem zfl_len {k a : Nat} {r : Nat → Option Nat} {f : Nat → Int32} : (zfl k a r f).length = zfn k := by rw [zfl, List.length_map, List.length_range]
theorem zfl_set {k a j : Nat} {r r2 : Nat → Option Nat} {f f2 : Nat → Int32} {v : Value} (hj : j < zfn k) (hv : v = zfv k a j (r2 j) (f2 j)) (hi : ∀ i, i ≠ j → r2 i = r i ∧ f2 i = f i) : (zfl k a r f).set j v = zfl k a r2 f2 := by
  apply List.ext_getElem?
  intro i
  by_cases h : i = j
  · subst h
    rw [List.getElem?_set_self (by rw [zfl_len]; exact hj), zfl_get hj, hv]
  · rw [List.getElem?_set_ne (Ne.symm h)]
    by_cases h2 : i < zfn k
    · rw [zfl_get h2, zfl_get h2, (hi i h).1, (hi i h).2]
    · rw [List.getElem?_eq_none (by rw [zfl_len]; omega), List.getElem?_eq_none (by rw [zfl_len]; omega)]
theorem zfl_put {k a j : Nat} {r : Nat → Option Nat} {f : Nat → Int32} {x : Int32} (hj : j < zfn k) (hi : (zfk k j, zfd k j) = (none, none)) : (zfl k a r f).set j (.int x) = zfl k a r (fun i => if i = j then x else f i) := by
  obtain ⟨h1, h2⟩ := Prod.mk.inj hi
  refine zfl_set hj ?_ (fun i h => ⟨rfl, if_neg h⟩)
  unfold zfv
  rw [h1, h2, if_pos rfl]
theorem zEof_put {tA : Nat → ClassId} {K : zKt} {I : zI} {a k j : Nat} {x : Int32} {e : va_E} (h : K.1 a = some k) (he : e = zcell tA k a (K.2 a) (fun i => if i = j then x else I a i)) : zup (zEof tA K I) a e = zEof tA K (zput I a j x) := by
  funext q
  by_cases hq : q = a
  · subst hq
    rw [zup, if_pos rfl, zEof_at h, he]
    congr 2
    funext i
    rw [zput, if_pos rfl]
  · rw [zup, if_neg hq, zEof, zEof]
    congr 1
    funext k9
    congr 1
    funext i
    rw [zput, if_neg hq]
theorem zinv_put {K : zKt} {I : zI} {a j k : Nat} {x : Int32} (h : zinv K I) (hk : K.1 a = some k) (hx : zfb k j = false ∨ (x = 0 ∨ x = 1)) : zinv K (zput I a j x) := by
  intro q k9 hq
  obtain ⟨h1, h2, h3, h4, h5⟩ := h q k9 hq
  refine ⟨h1, h2, h3, fun i hi => ?_, h5⟩
  rw [zput]
  by_cases e1 : q = a
  · subst e1
    have e3 : k9 = k := Option.some.inj (hq.symm.trans hk)
    subst e3
    by_cases e2 : i = j
    · subst e2
      rw [if_pos rfl, if_pos rfl]
      rcases hx with hx | hx
      · rw [hi] at hx; cases hx
      · exact hx
    · rw [if_pos rfl, if_neg e2]; exact h4 i hi
  · rw [if_neg e1]; exact h4 i hi
theorem zoks_app {sa : Nat → Nat} {K : zKt} : ∀ {a b : List AV}, zoks sa K (a ++ b) → zoks sa K a ∧ zoks sa K b
  | [], _, h => ⟨trivial, h⟩
  | _ :: _, _, h => ⟨⟨h.1, (zoks_app h.2).1⟩, (zoks_app h.2).2⟩
theorem zoks_rev {sa : Nat → Nat} {K : zKt} {l : List AV} (h : zoks sa K l) : ∀ v ∈ l, zok sa K v := by
  induction l with
  | nil => intro v hv; cases hv
  | cons a r ih =>
    intro v hv
    rcases List.mem_cons.mp hv with e | hv
    · rw [e]; exact h.1
    · exact ih h.2 v hv
theorem zoks_of {sa : Nat → Nat} {K : zKt} : ∀ {l : List AV}, (∀ v ∈ l, zok sa K v) → zoks sa K l
  | [], _ => trivial
  | a :: _, h => ⟨h a List.mem_cons_self, zoks_of (fun v hv => h v (List.mem_cons_of_mem _ hv))⟩

section ZR
variable {p : Program} {l : Launch} {e : Env} {R : Room} {s : State} {m : MethodId} {args : Array Value} {below : List Frame} {meth : Method} {c : Code} {cells slots : Nat} {Q : State → Prop}
variable {cc : ByteArray} {pc nL : Nat} {D : va_G} {b0 : Nat} {tA : Nat → ClassId} {sa sv : Nat → Nat} {K : zKt} {own : String} {ret : Option FieldType} {lv : List (Option AV)} {st : List AV} {I : zI}

theorem zr_iconst (X : zX p l e R s m args below meth c own cc nL ret D b0 tA sa sv) {n : Int} {v : Int32} (hd : decode cc pc = .ok (.iconst n, 1)) (hv : Int32.ofInt n = v)
    (k : zG p l e R s m args below meth c nL D b0 tA sa cells slots Q K (pc + 1) lv (vi v :: st) I) : zG p l e R s m args below meth c nL D b0 tA sa cells slots Q K pc lv st I := by
  intro hi hs hl ls hls H locs hP hS
  exact lv_iconst X.1 X.2.1 hd hv (k hi ⟨trivial, hs⟩ hl ls hls H locs hP hS)
theorem zr_bipush (X : zX p l e R s m args below meth c own cc nL ret D b0 tA sa sv) {n : Int} {v : Int32} (hd : decode cc pc = .ok (.bipush n, 2)) (hv : (Int8.ofInt n).toInt32 = v)
    (k : zG p l e R s m args below meth c nL D b0 tA sa cells slots Q K (pc + 2) lv (vi v :: st) I) : zG p l e R s m args below meth c nL D b0 tA sa cells slots Q K pc lv st I := by
  intro hi hs hl ls hls H locs hP hS
  exact lv_bipush X.1 X.2.1 hd hv (k hi ⟨trivial, hs⟩ hl ls hls H locs hP hS)
theorem zr_sipush (X : zX p l e R s m args below meth c own cc nL ret D b0 tA sa sv) {n : Int} {v : Int32} (hd : decode cc pc = .ok (.sipush n, 3)) (hv : (Int16.ofInt n).toInt32 = v)
    (k : zG p l e R s m args below meth c nL D b0 tA sa cells slots Q K (pc + 3) lv (vi v :: st) I) : zG p l e R s m args below meth c nL D b0 tA sa cells slots Q K pc lv st I := by
  intro hi hs hl ls hls H locs hP hS
  exact lv_sipush X.1 X.2.1 hd hv (k hi ⟨trivial, hs⟩ hl ls hls H locs hP hS)
theorem zr_lconst (X : zX p l e R s m args below meth c own cc nL ret D b0 tA sa sv) {n : Fin 2} {v : Int64} (hd : decode cc pc = .ok (.lconst n, 1)) (hv : Int64.ofNat (n : Nat) = v)
    (k : zG p l e R s m args below meth c nL D b0 tA sa cells slots Q K (pc + 1) lv (vl v :: st) I) : zG p l e R s m args below meth c nL D b0 tA sa cells slots Q K pc lv st I := by
  intro hi hs hl ls hls H locs hP hS
  exact lv_lconst X.1 X.2.1 hd hv (k hi ⟨trivial, hs⟩ hl ls hls H locs hP hS)
theorem zr_ldc (X : zX p l e R s m args below meth c own cc nL ret D b0 tA sa sv) {index : Nat} {v : Int32} (hd : decode cc pc = .ok (.ldc index, 2)) (hw : Cond.constant own index v ∈ zALL)
    (k : zG p l e R s m args below meth c nL D b0 tA sa cells slots Q K (pc + 2) lv (vi v :: st) I) : zG p l e R s m args below meth c nL D b0 tA sa cells slots Q K pc lv st I := by
  intro hi hs hl ls hls H locs hP hS
  exact lv_ldc X.1 X.2.1 X.2.2.2.1 (X.2.2.2.2.1 _ hw) hd (k hi ⟨trivial, hs⟩ hl ls hls H locs hP hS)
theorem zr_ldc2 (X : zX p l e R s m args below meth c own cc nL ret D b0 tA sa sv) {index : Nat} {v : Int64} (hd : decode cc pc = .ok (.ldc2_w index, 3)) (hw : Cond.constantLong own index v ∈ zALL)
    (k : zG p l e R s m args below meth c nL D b0 tA sa cells slots Q K (pc + 3) lv (vl v :: st) I) : zG p l e R s m args below meth c nL D b0 tA sa cells slots Q K pc lv st I := by
  intro hi hs hl ls hls H locs hP hS
  exact lv_ldc2 X.1 X.2.1 X.2.2.2.1 (X.2.2.2.2.1 _ hw) hd (k hi ⟨trivial, hs⟩ hl ls hls H locs hP hS)
theorem zr_iadd (X : zX p l e R s m args below meth c own cc nL ret D b0 tA sa sv) {x y : Int32} (hd : decode cc pc = .ok (.iadd, 1))
    (k : zG p l e R s m args below meth c nL D b0 tA sa cells slots Q K (pc + 1) lv (vi (x + y) :: st) I) : zG p l e R s m args below meth c nL D b0 tA sa cells slots Q K pc lv (vi y :: vi x :: st) I := by
  intro hi hs hl ls hls H locs hP hS
  exact lv_iadd X.1 X.2.1 hd (k hi ⟨trivial, hs.2.2⟩ hl ls hls H locs hP hS)
theorem zr_isub (X : zX p l e R s m args below meth c own cc nL ret D b0 tA sa sv) {x y : Int32} (hd : decode cc pc = .ok (.isub, 1))
    (k : zG p l e R s m args below meth c nL D b0 tA sa cells slots Q K (pc + 1) lv (vi (x - y) :: st) I) : zG p l e R s m args below meth c nL D b0 tA sa cells slots Q K pc lv (vi y :: vi x :: st) I := by
  intro hi hs hl ls hls H locs hP hS
  exact lv_isub X.1 X.2.1 hd (k hi ⟨trivial, hs.2.2⟩ hl ls hls H locs hP hS)
theorem zr_imul (X : zX p l e R s m args below meth c own cc nL ret D b0 tA sa sv) {x y : Int32} (hd : decode cc pc = .ok (.imul, 1))
    (k : zG p l e R s m args below meth c nL D b0 tA sa cells slots Q K (pc + 1) lv (vi (x * y) :: st) I) : zG p l e R s m args below meth c nL D b0 tA sa cells slots Q K pc lv (vi y :: vi x :: st) I := by
  intro hi hs hl ls hls H locs hP hS
  exact lv_imul X.1 X.2.1 hd (k hi ⟨trivial, hs.2.2⟩ hl ls hls H locs hP hS)
theorem zr_iand (X : zX p l e R s m args below meth c own cc nL ret D b0 tA sa sv) {x y : Int32} (hd : decode cc pc = .ok (.iand, 1))
    (k : zG p l e R s m args below meth c nL D b0 tA sa cells slots Q K (pc + 1) lv (vi (x &&& y) :: st) I) : zG p l e R s m args below meth c nL D b0 tA sa cells slots Q K pc lv (vi y :: vi x :: st) I := by
  intro hi hs hl ls hls H locs hP hS
  exact lv_iand X.1 X.2.1 hd (k hi ⟨trivial, hs.2.2⟩ hl ls hls H locs hP hS)
theorem zr_ior (X : zX p l e R s m args below meth c own cc nL ret D b0 tA sa sv) {x y : Int32} (hd : decode cc pc = .ok (.ior, 1))
    (k : zG p l e R s m args below meth c nL D b0 tA sa cells slots Q K (pc + 1) lv (vi (x ||| y) :: st) I) : zG p l e R s m args below meth c nL D b0 tA sa cells slots Q K pc lv (vi y :: vi x :: st) I := by
  intro hi hs hl ls hls H locs hP hS
  exact lv_ior X.1 X.2.1 hd (k hi ⟨trivial, hs.2.2⟩ hl ls hls H locs hP hS)
theorem zr_ixor (X : zX p l e R s m args below meth c own cc nL ret D b0 tA sa sv) {x y : Int32} (hd : decode cc pc = .ok (.ixor, 1))
    (k : zG p l e R s m args below meth c nL D b0 tA sa cells slots Q K (pc + 1) lv (vi (x ^^^ y) :: st) I) : zG p l e R s m args below meth c nL D b0 tA sa cells slots Q K pc lv (vi y :: vi x :: st) I := by
  intro hi hs hl ls hls H locs hP hS
  exact lv_ixor X.1 X.2.1 hd (k hi ⟨trivial, hs.2.2⟩ hl ls hls H locs hP hS)
theorem zr_ishl (X : zX p l e R s m args below meth c own cc nL ret D b0 tA sa sv) {x y : Int32} (hd : decode cc pc = .ok (.ishl, 1))
    (k : zG p l e R s m args below meth c nL D b0 tA sa cells slots Q K (pc + 1) lv (vi (x <<< (y &&& 31)) :: st) I) : zG p l e R s m args below meth c nL D b0 tA sa cells slots Q K pc lv (vi y :: vi x :: st) I := by
  intro hi hs hl ls hls H locs hP hS
  exact lv_ishl X.1 X.2.1 hd (k hi ⟨trivial, hs.2.2⟩ hl ls hls H locs hP hS)
theorem zr_ishr (X : zX p l e R s m args below meth c own cc nL ret D b0 tA sa sv) {x y : Int32} (hd : decode cc pc = .ok (.ishr, 1))
    (k : zG p l e R s m args below meth c nL D b0 tA sa cells slots Q K (pc + 1) lv (vi (x >>> (y &&& 31)) :: st) I) : zG p l e R s m args below meth c nL D b0 tA sa cells slots Q K pc lv (vi y :: vi x :: st) I := by
  intro hi hs hl ls hls H locs hP hS
  exact lv_ishr X.1 X.2.1 hd (k hi ⟨trivial, hs.2.2⟩ hl ls hls H locs hP hS)
theorem zr_ladd (X : zX p l e R s m args below meth c own cc nL ret D b0 tA sa sv) {x y : Int64} (hd : decode cc pc = .ok (.ladd, 1))
    (k : zG p l e R s m args below meth c nL D b0 tA sa cells slots Q K (pc + 1) lv (vl (x + y) :: st) I) : zG p l e R s m args below meth c nL D b0 tA sa cells slots Q K pc lv (vl y :: vl x :: st) I := by
  intro hi hs hl ls hls H locs hP hS
  exact lv_ladd X.1 X.2.1 hd (k hi ⟨trivial, hs.2.2⟩ hl ls hls H locs hP hS)
theorem zr_lsub (X : zX p l e R s m args below meth c own cc nL ret D b0 tA sa sv) {x y : Int64} (hd : decode cc pc = .ok (.lsub, 1))
    (k : zG p l e R s m args below meth c nL D b0 tA sa cells slots Q K (pc + 1) lv (vl (x - y) :: st) I) : zG p l e R s m args below meth c nL D b0 tA sa cells slots Q K pc lv (vl y :: vl x :: st) I := by
  intro hi hs hl ls hls H locs hP hS
  exact lv_lsub X.1 X.2.1 hd (k hi ⟨trivial, hs.2.2⟩ hl ls hls H locs hP hS)
theorem zr_lmul (X : zX p l e R s m args below meth c own cc nL ret D b0 tA sa sv) {x y : Int64} (hd : decode cc pc = .ok (.lmul, 1))
    (k : zG p l e R s m args below meth c nL D b0 tA sa cells slots Q K (pc + 1) lv (vl (x * y) :: st) I) : zG p l e R s m args below meth c nL D b0 tA sa cells slots Q K pc lv (vl y :: vl x :: st) I := by
  intro hi hs hl ls hls H locs hP hS
  exact lv_lmul X.1 X.2.1 hd (k hi ⟨trivial, hs.2.2⟩ hl ls hls H locs hP hS)
theorem zr_idiv (X : zX p l e R s m args below meth c own cc nL ret D b0 tA sa sv) {x y : Int32} (hd : decode cc pc = .ok (.idiv, 1)) (hne : ¬ y = 0)
    (k : zG p l e R s m args below meth c nL D b0 tA sa cells slots Q K (pc + 1) lv (vi (x / y) :: st) I) : zG p l e R s m args below meth c nL D b0 tA sa cells slots Q K pc lv (vi y :: vi x :: st) I := by
  intro hi hs hl ls hls H locs hP hS
  exact lv_idiv X.1 X.2.1 hd hne (k hi ⟨trivial, hs.2.2⟩ hl ls hls H locs hP hS)
theorem zr_irem (X : zX p l e R s m args below meth c own cc nL ret D b0 tA sa sv) {x y : Int32} (hd : decode cc pc = .ok (.irem, 1)) (hne : ¬ y = 0)
    (k : zG p l e R s m args below meth c nL D b0 tA sa cells slots Q K (pc + 1) lv (vi (x - x / y * y) :: st) I) : zG p l e R s m args below meth c nL D b0 tA sa cells slots Q K pc lv (vi y :: vi x :: st) I := by
  intro hi hs hl ls hls H locs hP hS
  exact lv_irem X.1 X.2.1 hd hne (k hi ⟨trivial, hs.2.2⟩ hl ls hls H locs hP hS)
theorem zr_ineg (X : zX p l e R s m args below meth c own cc nL ret D b0 tA sa sv) {x : Int32} (hd : decode cc pc = .ok (.ineg, 1))
    (k : zG p l e R s m args below meth c nL D b0 tA sa cells slots Q K (pc + 1) lv (vi (-x) :: st) I) : zG p l e R s m args below meth c nL D b0 tA sa cells slots Q K pc lv (vi x :: st) I := by
  intro hi hs hl ls hls H locs hP hS
  exact lv_ineg X.1 X.2.1 hd (k hi ⟨trivial, hs.2⟩ hl ls hls H locs hP hS)
theorem zr_i2l (X : zX p l e R s m args below meth c own cc nL ret D b0 tA sa sv) {x : Int32} (hd : decode cc pc = .ok (.i2l, 1))
    (k : zG p l e R s m args below meth c nL D b0 tA sa cells slots Q K (pc + 1) lv (vl x.toInt64 :: st) I) : zG p l e R s m args below meth c nL D b0 tA sa cells slots Q K pc lv (vi x :: st) I := by
  intro hi hs hl ls hls H locs hP hS
  exact lv_i2l X.1 X.2.1 hd rfl (k hi ⟨trivial, hs.2⟩ hl ls hls H locs hP hS)
theorem zr_i2b (X : zX p l e R s m args below meth c own cc nL ret D b0 tA sa sv) {x : Int32} (hd : decode cc pc = .ok (.i2b, 1))
    (k : zG p l e R s m args below meth c nL D b0 tA sa cells slots Q K (pc + 1) lv (vi x.toInt8.toInt32 :: st) I) : zG p l e R s m args below meth c nL D b0 tA sa cells slots Q K pc lv (vi x :: st) I := by
  intro hi hs hl ls hls H locs hP hS
  exact lv_i2b X.1 X.2.1 hd rfl (k hi ⟨trivial, hs.2⟩ hl ls hls H locs hP hS)
theorem zr_dupI (X : zX p l e R s m args below meth c own cc nL ret D b0 tA sa sv) {x : Int32} (hd : decode cc pc = .ok (.dup, 1))
    (k : zG p l e R s m args below meth c nL D b0 tA sa cells slots Q K (pc + 1) lv (vi x :: vi x :: st) I) : zG p l e R s m args below meth c nL D b0 tA sa cells slots Q K pc lv (vi x :: st) I := by
  intro hi hs hl ls hls H locs hP hS
  exact lv_dup X.1 X.2.1 hd rfl (k hi ⟨trivial, trivial, hs.2⟩ hl ls hls H locs hP hS)
theorem zr_dupR (X : zX p l e R s m args below meth c own cc nL ret D b0 tA sa sv) {a q : Nat} (hd : decode cc pc = .ok (.dup, 1))
    (k : zG p l e R s m args below meth c nL D b0 tA sa cells slots Q K (pc + 1) lv (vr a q :: vr a q :: st) I) : zG p l e R s m args below meth c nL D b0 tA sa cells slots Q K pc lv (vr a q :: st) I := by
  intro hi hs hl ls hls H locs hP hS
  exact lv_dup X.1 X.2.1 hd rfl (k hi ⟨hs.1, hs.1, hs.2⟩ hl ls hls H locs hP hS)
theorem zr_dup2 (X : zX p l e R s m args below meth c own cc nL ret D b0 tA sa sv) {x : Int32} {a q : Nat} (hd : decode cc pc = .ok (.dup2, 1))
    (k : zG p l e R s m args below meth c nL D b0 tA sa cells slots Q K (pc + 1) lv (vi x :: vr a q :: vi x :: vr a q :: st) I) : zG p l e R s m args below meth c nL D b0 tA sa cells slots Q K pc lv (vi x :: vr a q :: st) I := by
  intro hi hs hl ls hls H locs hP hS
  exact lv_dup2_11 X.1 X.2.1 hd rfl rfl (k hi ⟨trivial, hs.2.1, trivial, hs.2.1, hs.2.2⟩ hl ls hls H locs hP hS)
theorem zr_popI (X : zX p l e R s m args below meth c own cc nL ret D b0 tA sa sv) {x : Int32} (hd : decode cc pc = .ok (.pop, 1))
    (k : zG p l e R s m args below meth c nL D b0 tA sa cells slots Q K (pc + 1) lv st I) : zG p l e R s m args below meth c nL D b0 tA sa cells slots Q K pc lv (vi x :: st) I := by
  intro hi hs hl ls hls H locs hP hS
  exact lv_pop X.1 X.2.1 hd rfl (k hi hs.2 hl ls hls H locs hP hS)
theorem zr_iloadN (X : zX p l e R s m args below meth c own cc nL ret D b0 tA sa sv) {x : Int32} {i : Nat} {kk : Fin 4} (hi9 : (kk : Nat) = i) (hv : lv[i]? = some (some (vi x))) (hd : decode cc pc = .ok (.iload_n kk, 1))
    (k : zG p l e R s m args below meth c nL D b0 tA sa cells slots Q K (pc + 1) lv (vi x :: st) I) : zG p l e R s m args below meth c nL D b0 tA sa cells slots Q K pc lv st I := by
  intro hi hs hl ls hls H locs hP hS
  exact lv_iload_n X.1 X.2.1 hd hi9 (zlv_at hls hv) (k hi ⟨trivial, hs⟩ hl ls hls H locs hP hS)
theorem zr_iloadW (X : zX p l e R s m args below meth c own cc nL ret D b0 tA sa sv) {x : Int32} {i : Nat} (hv : lv[i]? = some (some (vi x))) (hd : decode cc pc = .ok (.iload i, 2))
    (k : zG p l e R s m args below meth c nL D b0 tA sa cells slots Q K (pc + 2) lv (vi x :: st) I) : zG p l e R s m args below meth c nL D b0 tA sa cells slots Q K pc lv st I := by
  intro hi hs hl ls hls H locs hP hS
  exact lv_iload X.1 X.2.1 hd (zlv_at hls hv) (k hi ⟨trivial, hs⟩ hl ls hls H locs hP hS)
theorem zr_aloadN (X : zX p l e R s m args below meth c own cc nL ret D b0 tA sa sv) {x q : Nat} {i : Nat} {kk : Fin 4} (hi9 : (kk : Nat) = i) (hv : lv[i]? = some (some (vr x q))) (hd : decode cc pc = .ok (.aload_n kk, 1))
    (k : zG p l e R s m args below meth c nL D b0 tA sa cells slots Q K (pc + 1) lv (vr x q :: st) I) : zG p l e R s m args below meth c nL D b0 tA sa cells slots Q K pc lv st I := by
  intro hi hs hl ls hls H locs hP hS
  exact lv_aload_n X.1 X.2.1 hd hi9 (zlv_at hls hv) (k hi ⟨hl i _ hv, hs⟩ hl ls hls H locs hP hS)
theorem zr_aloadW (X : zX p l e R s m args below meth c own cc nL ret D b0 tA sa sv) {x q : Nat} {i : Nat} (hv : lv[i]? = some (some (vr x q))) (hd : decode cc pc = .ok (.aload i, 2))
    (k : zG p l e R s m args below meth c nL D b0 tA sa cells slots Q K (pc + 2) lv (vr x q :: st) I) : zG p l e R s m args below meth c nL D b0 tA sa cells slots Q K pc lv st I := by
  intro hi hs hl ls hls H locs hP hS
  exact lv_aload X.1 X.2.1 hd (zlv_at hls hv) (k hi ⟨hl i _ hv, hs⟩ hl ls hls H locs hP hS)
theorem zr_lloadN (X : zX p l e R s m args below meth c own cc nL ret D b0 tA sa sv) {x : Int64} {i : Nat} {kk : Fin 4} (hi9 : (kk : Nat) = i) (hv : lv[i]? = some (some (vl x))) (hd : decode cc pc = .ok (.lload_n kk, 1))
    (k : zG p l e R s m args below meth c nL D b0 tA sa cells slots Q K (pc + 1) lv (vl x :: st) I) : zG p l e R s m args below meth c nL D b0 tA sa cells slots Q K pc lv st I := by
  intro hi hs hl ls hls H locs hP hS
  exact lv_lload_n X.1 X.2.1 hd hi9 (zlv_at hls hv) (k hi ⟨trivial, hs⟩ hl ls hls H locs hP hS)
theorem zr_lloadW (X : zX p l e R s m args below meth c own cc nL ret D b0 tA sa sv) {x : Int64} {i : Nat} (hv : lv[i]? = some (some (vl x))) (hd : decode cc pc = .ok (.lload i, 2))
    (k : zG p l e R s m args below meth c nL D b0 tA sa cells slots Q K (pc + 2) lv (vl x :: st) I) : zG p l e R s m args below meth c nL D b0 tA sa cells slots Q K pc lv st I := by
  intro hi hs hl ls hls H locs hP hS
  exact lv_lload X.1 X.2.1 hd (zlv_at hls hv) (k hi ⟨trivial, hs⟩ hl ls hls H locs hP hS)
theorem zr_istoreN (X : zX p l e R s m args below meth c own cc nL ret D b0 tA sa sv) {x : Int32} {i : Nat} {kk : Fin 4} (hi9 : (kk : Nat) = i) (hn : i < nL) (hz : ∀ k : Nat, k + 1 = i → ∀ w, lv[k]? = some w → z1 w = true) (hd : decode cc pc = .ok (.istore_n kk, 1))
    (k : zG p l e R s m args below meth c nL D b0 tA sa cells slots Q K (pc + 1) (lv.set i (some (vi x))) st I) : zG p l e R s m args below meth c nL D b0 tA sa cells slots Q K pc lv (vi x :: st) I := by
  intro hi hs hl ls hls H locs hP hS
  obtain ⟨l9, h1, h2⟩ := hls
  exact lv_istore_n X.1 X.2.1 hd hi9 h1 hn rfl (fun ls1 h9 => k hi hs.2 (zokl_set hl i trivial) ls1 (zlv_store (v := vi x) h2 hz h9) H locs hP hS)
theorem zr_istoreW (X : zX p l e R s m args below meth c own cc nL ret D b0 tA sa sv) {x : Int32} {i : Nat}  (hn : i < nL) (hz : ∀ k : Nat, k + 1 = i → ∀ w, lv[k]? = some w → z1 w = true) (hd : decode cc pc = .ok (.istore i, 2))
    (k : zG p l e R s m args below meth c nL D b0 tA sa cells slots Q K (pc + 2) (lv.set i (some (vi x))) st I) : zG p l e R s m args below meth c nL D b0 tA sa cells slots Q K pc lv (vi x :: st) I := by
  intro hi hs hl ls hls H locs hP hS
  obtain ⟨l9, h1, h2⟩ := hls
  exact lv_istore X.1 X.2.1 hd h1 hn rfl (fun ls1 h9 => k hi hs.2 (zokl_set hl i trivial) ls1 (zlv_store (v := vi x) h2 hz h9) H locs hP hS)
theorem zr_astoreN (X : zX p l e R s m args below meth c own cc nL ret D b0 tA sa sv) {x q : Nat} {i : Nat} {kk : Fin 4} (hi9 : (kk : Nat) = i) (hn : i < nL) (hz : ∀ k : Nat, k + 1 = i → ∀ w, lv[k]? = some w → z1 w = true) (hd : decode cc pc = .ok (.astore_n kk, 1))
    (k : zG p l e R s m args below meth c nL D b0 tA sa cells slots Q K (pc + 1) (lv.set i (some (vr x q))) st I) : zG p l e R s m args below meth c nL D b0 tA sa cells slots Q K pc lv (vr x q :: st) I := by
  intro hi hs hl ls hls H locs hP hS
  obtain ⟨l9, h1, h2⟩ := hls
  exact lv_astore_n X.1 X.2.1 hd hi9 h1 hn rfl (fun ls1 h9 => k hi hs.2 (zokl_set hl i hs.1) ls1 (zlv_store (v := vr x q) h2 hz h9) H locs hP hS)
theorem zr_astoreW (X : zX p l e R s m args below meth c own cc nL ret D b0 tA sa sv) {x q : Nat} {i : Nat}  (hn : i < nL) (hz : ∀ k : Nat, k + 1 = i → ∀ w, lv[k]? = some w → z1 w = true) (hd : decode cc pc = .ok (.astore i, 2))
    (k : zG p l e R s m args below meth c nL D b0 tA sa cells slots Q K (pc + 2) (lv.set i (some (vr x q))) st I) : zG p l e R s m args below meth c nL D b0 tA sa cells slots Q K pc lv (vr x q :: st) I := by
  intro hi hs hl ls hls H locs hP hS
  obtain ⟨l9, h1, h2⟩ := hls
  exact lv_astore X.1 X.2.1 hd h1 hn rfl (fun ls1 h9 => k hi hs.2 (zokl_set hl i hs.1) ls1 (zlv_store (v := vr x q) h2 hz h9) H locs hP hS)
theorem zlv_iinc {ls : Array Slot} {lv : List (Option AV)} {l9 : List (Nat × Value)} {i : Nat} {x : Int32} (h2 : ∀ (j : Nat) (w : AV), lv[j]? = some (some w) → (j, zv w) ∈ l9) (hv : lv[i]? = some (some (vi x))) : ∃ k : Nat, l9[k]? = some (i, .int x) := List.getElem?_of_mem (h2 i _ hv)
theorem zr_iincW (X : zX p l e R s m args below meth c own cc nL ret D b0 tA sa sv) {x v : Int32} {i : Nat} {n : Int} (hv : lv[i]? = some (some (vi x))) (hx : x + Int32.ofInt n = v) (hn : i < nL) (hz : ∀ k : Nat, k + 1 = i → ∀ w, lv[k]? = some w → z1 w = true) (hd : decode cc pc = .ok (.iinc i n, 3))
    (k : zG p l e R s m args below meth c nL D b0 tA sa cells slots Q K (pc + 3) (lv.set i (some (vi v))) st I) : zG p l e R s m args below meth c nL D b0 tA sa cells slots Q K pc lv st I := by
  intro hi hs hl ls hls H locs hP hS
  obtain ⟨l9, h1, h2⟩ := hls
  obtain ⟨k9, hk9⟩ := zlv_iinc (ls := ls) h2 hv
  exact lv_iinc X.1 X.2.1 hd h1 hk9 hx hn rfl (fun ls1 h9 => k hi hs (zokl_set hl i (v := vi v) trivial) ls1 (zlv_store (v := vi v) h2 hz h9) H locs hP hS)
theorem zr_iload0 (X : zX p l e R s m args below meth c own cc nL ret D b0 tA sa sv) {x : Int32} {r : List (Option AV)} (hd : decode cc pc = .ok (.iload_n 0, 1)) (k : zG p l e R s m args below meth c nL D b0 tA sa cells slots Q K (pc + 1) (some (vi x) :: r) (vi x :: st) I) : zG p l e R s m args below meth c nL D b0 tA sa cells slots Q K pc (some (vi x) :: r) st I := zr_iloadN X (i := 0) rfl rfl hd k
theorem zr_iload1 (X : zX p l e R s m args below meth c own cc nL ret D b0 tA sa sv) {x : Int32} {a0 : Option AV} {r : List (Option AV)} (hd : decode cc pc = .ok (.iload_n 1, 1)) (k : zG p l e R s m args below meth c nL D b0 tA sa cells slots Q K (pc + 1) (a0 :: some (vi x) :: r) (vi x :: st) I) : zG p l e R s m args below meth c nL D b0 tA sa cells slots Q K pc (a0 :: some (vi x) :: r) st I := zr_iloadN X (i := 1) rfl rfl hd k
theorem zr_iload2 (X : zX p l e R s m args below meth c own cc nL ret D b0 tA sa sv) {x : Int32} {a0 a1 : Option AV} {r : List (Option AV)} (hd : decode cc pc = .ok (.iload_n 2, 1)) (k : zG p l e R s m args below meth c nL D b0 tA sa cells slots Q K (pc + 1) (a0 :: a1 :: some (vi x) :: r) (vi x :: st) I) : zG p l e R s m args below meth c nL D b0 tA sa cells slots Q K pc (a0 :: a1 :: some (vi x) :: r) st I := zr_iloadN X (i := 2) rfl rfl hd k
theorem zr_iload3 (X : zX p l e R s m args below meth c own cc nL ret D b0 tA sa sv) {x : Int32} {a0 a1 a2 : Option AV} {r : List (Option AV)} (hd : decode cc pc = .ok (.iload_n 3, 1)) (k : zG p l e R s m args below meth c nL D b0 tA sa cells slots Q K (pc + 1) (a0 :: a1 :: a2 :: some (vi x) :: r) (vi x :: st) I) : zG p l e R s m args below meth c nL D b0 tA sa cells slots Q K pc (a0 :: a1 :: a2 :: some (vi x) :: r) st I := zr_iloadN X (i := 3) rfl rfl hd k
theorem zr_iload4 (X : zX p l e R s m args below meth c own cc nL ret D b0 tA sa sv) {x : Int32} {a0 a1 a2 a3 : Option AV} {r : List (Option AV)} (hd : decode cc pc = .ok (.iload 4, 2)) (k : zG p l e R s m args below meth c nL D b0 tA sa cells slots Q K (pc + 2) (a0 :: a1 :: a2 :: a3 :: some (vi x) :: r) (vi x :: st) I) : zG p l e R s m args below meth c nL D b0 tA sa cells slots Q K pc (a0 :: a1 :: a2 :: a3 :: some (vi x) :: r) st I := zr_iloadW X (i := 4) rfl hd k
theorem zr_iload5 (X : zX p l e R s m args below meth c own cc nL ret D b0 tA sa sv) {x : Int32} {a0 a1 a2 a3 a4 : Option AV} {r : List (Option AV)} (hd : decode cc pc = .ok (.iload 5, 2)) (k : zG p l e R s m args below meth c nL D b0 tA sa cells slots Q K (pc + 2) (a0 :: a1 :: a2 :: a3 :: a4 :: some (vi x) :: r) (vi x :: st) I) : zG p l e R s m args below meth c nL D b0 tA sa cells slots Q K pc (a0 :: a1 :: a2 :: a3 :: a4 :: some (vi x) :: r) st I := zr_iloadW X (i := 5) rfl hd k
theorem zr_iload6 (X : zX p l e R s m args below meth c own cc nL ret D b0 tA sa sv) {x : Int32} {a0 a1 a2 a3 a4 a5 : Option AV} {r : List (Option AV)} (hd : decode cc pc = .ok (.iload 6, 2)) (k : zG p l e R s m args below meth c nL D b0 tA sa cells slots Q K (pc + 2) (a0 :: a1 :: a2 :: a3 :: a4 :: a5 :: some (vi x) :: r) (vi x :: st) I) : zG p l e R s m args below meth c nL D b0 tA sa cells slots Q K pc (a0 :: a1 :: a2 :: a3 :: a4 :: a5 :: some (vi x) :: r) st I := zr_iloadW X (i := 6) rfl hd k
theorem zr_iload7 (X : zX p l e R s m args below meth c own cc nL ret D b0 tA sa sv) {x : Int32} {a0 a1 a2 a3 a4 a5 a6 : Option AV} {r : List (Option AV)} (hd : decode cc pc = .ok (.iload 7, 2)) (k : zG p l e R s m args below meth c nL D b0 tA sa cells slots Q K (pc + 2) (a0 :: a1 :: a2 :: a3 :: a4 :: a5 :: a6 :: some (vi x) :: r) (vi x :: st) I) : zG p l e R s m args below meth c nL D b0 tA sa cells slots Q K pc (a0 :: a1 :: a2 :: a3 :: a4 :: a5 :: a6 :: some (vi x) :: r) st I := zr_iloadW X (i := 7) rfl hd k
theorem zr_iload8 (X : zX p l e R s m args below meth c own cc nL ret D b0 tA sa sv) {x : Int32} {a0 a1 a2 a3 a4 a5 a6 a7 : Option AV} {r : List (Option AV)} (hd : decode cc pc = .ok (.iload 8, 2)) (k : zG p l e R s m args below meth c nL D b0 tA sa cells slots Q K (pc + 2) (a0 :: a1 :: a2 :: a3 :: a4 :: a5 :: a6 :: a7 :: some (vi x) :: r) (vi x :: st) I) : zG p l e R s m args below meth c nL D b0 tA sa cells slots Q K pc (a0 :: a1 :: a2 :: a3 :: a4 :: a5 :: a6 :: a7 :: some (vi x) :: r) st I := zr_iloadW X (i := 8) rfl hd k
theorem zr_aload0 (X : zX p l e R s m args below meth c own cc nL ret D b0 tA sa sv) {x q : Nat} {r : List (Option AV)} (hd : decode cc pc = .ok (.aload_n 0, 1)) (k : zG p l e R s m args below meth c nL D b0 tA sa cells slots Q K (pc + 1) (some (vr x q) :: r) (vr x q :: st) I) : zG p l e R s m args below meth c nL D b0 tA sa cells slots Q K pc (some (vr x q) :: r) st I := zr_aloadN X (i := 0) rfl rfl hd k
theorem zr_aload1 (X : zX p l e R s m args below meth c own cc nL ret D b0 tA sa sv) {x q : Nat} {a0 : Option AV} {r : List (Option AV)} (hd : decode cc pc = .ok (.aload_n 1, 1)) (k : zG p l e R s m args below meth c nL D b0 tA sa cells slots Q K (pc + 1) (a0 :: some (vr x q) :: r) (vr x q :: st) I) : zG p l e R s m args below meth c nL D b0 tA sa cells slots Q K pc (a0 :: some (vr x q) :: r) st I := zr_aloadN X (i := 1) rfl rfl hd k
theorem zr_aload2 (X : zX p l e R s m args below meth c own cc nL ret D b0 tA sa sv) {x q : Nat} {a0 a1 : Option AV} {r : List (Option AV)} (hd : decode cc pc = .ok (.aload_n 2, 1)) (k : zG p l e R s m args below meth c nL D b0 tA sa cells slots Q K (pc + 1) (a0 :: a1 :: some (vr x q) :: r) (vr x q :: st) I) : zG p l e R s m args below meth c nL D b0 tA sa cells slots Q K pc (a0 :: a1 :: some (vr x q) :: r) st I := zr_aloadN X (i := 2) rfl rfl hd k
theorem zr_aload3 (X : zX p l e R s m args below meth c own cc nL ret D b0 tA sa sv) {x q : Nat} {a0 a1 a2 : Option AV} {r : List (Option AV)} (hd : decode cc pc = .ok (.aload_n 3, 1)) (k : zG p l e R s m args below meth c nL D b0 tA sa cells slots Q K (pc + 1) (a0 :: a1 :: a2 :: some (vr x q) :: r) (vr x q :: st) I) : zG p l e R s m args below meth c nL D b0 tA sa cells slots Q K pc (a0 :: a1 :: a2 :: some (vr x q) :: r) st I := zr_aloadN X (i := 3) rfl rfl hd k
theorem zr_aload4 (X : zX p l e R s m args below meth c own cc nL ret D b0 tA sa sv) {x q : Nat} {a0 a1 a2 a3 : Option AV} {r : List (Option AV)} (hd : decode cc pc = .ok (.aload 4, 2)) (k : zG p l e R s m args below meth c nL D b0 tA sa cells slots Q K (pc + 2) (a0 :: a1 :: a2 :: a3 :: some (vr x q) :: r) (vr x q :: st) I) : zG p l e R s m args below meth c nL D b0 tA sa cells slots Q K pc (a0 :: a1 :: a2 :: a3 :: some (vr x q) :: r) st I := zr_aloadW X (i := 4) rfl hd k
theorem zr_aload5 (X : zX p l e R s m args below meth c own cc nL ret D b0 tA sa sv) {x q : Nat} {a0 a1 a2 a3 a4 : Option AV} {r : List (Option AV)} (hd : decode cc pc = .ok (.aload 5, 2)) (k : zG p l e R s m args below meth c nL D b0 tA sa cells slots Q K (pc + 2) (a0 :: a1 :: a2 :: a3 :: a4 :: some (vr x q) :: r) (vr x q :: st) I) : zG p l e R s m args below meth c nL D b0 tA sa cells slots Q K pc (a0 :: a1 :: a2 :: a3 :: a4 :: some (vr x q) :: r) st I := zr_aloadW X (i := 5) rfl hd k
theorem zr_aload6 (X : zX p l e R s m args below meth c own cc nL ret D b0 tA sa sv) {x q : Nat} {a0 a1 a2 a3 a4 a5 : Option AV} {r : List (Option AV)} (hd : decode cc pc = .ok (.aload 6, 2)) (k : zG p l e R s m args below meth c nL D b0 tA sa cells slots Q K (pc + 2) (a0 :: a1 :: a2 :: a3 :: a4 :: a5 :: some (vr x q) :: r) (vr x q :: st) I) : zG p l e R s m args below meth c nL D b0 tA sa cells slots Q K pc (a0 :: a1 :: a2 :: a3 :: a4 :: a5 :: some (vr x q) :: r) st I := zr_aloadW X (i := 6) rfl hd k
theorem zr_aload7 (X : zX p l e R s m args below meth c own cc nL ret D b0 tA sa sv) {x q : Nat} {a0 a1 a2 a3 a4 a5 a6 : Option AV} {r : List (Option AV)} (hd : decode cc pc = .ok (.aload 7, 2)) (k : zG p l e R s m args below meth c nL D b0 tA sa cells slots Q K (pc + 2) (a0 :: a1 :: a2 :: a3 :: a4 :: a5 :: a6 :: some (vr x q) :: r) (vr x q :: st) I) : zG p l e R s m args below meth c nL D b0 tA sa cells slots Q K pc (a0 :: a1 :: a2 :: a3 :: a4 :: a5 :: a6 :: some (vr x q) :: r) st I := zr_aloadW X (i := 7) rfl hd k
theorem zr_aload8 (X : zX p l e R s m args below meth c own cc nL ret D b0 tA sa sv) {x q : Nat} {a0 a1 a2 a3 a4 a5 a6 a7 : Option AV} {r : List (Option AV)} (hd : decode cc pc = .ok (.aload 8, 2)) (k : zG p l e R s m args below meth c nL D b0 tA sa cells slots Q K (pc + 2) (a0 :: a1 :: a2 :: a3 :: a4 :: a5 :: a6 :: a7 :: some (vr x q) :: r) (vr x q :: st) I) : zG p l e R s m args below meth c nL D b0 tA sa cells slots Q K pc (a0 :: a1 :: a2 :: a3 :: a4 :: a5 :: a6 :: a7 :: some (vr x q) :: r) st I := zr_aloadW X (i := 8) rfl hd k
theorem zr_lload0 (X : zX p l e R s m args below meth c own cc nL ret D b0 tA sa sv) {x : Int64} {r : List (Option AV)} (hd : decode cc pc = .ok (.lload_n 0, 1)) (k : zG p l e R s m args below meth c nL D b0 tA sa cells slots Q K (pc + 1) (some (vl x) :: r) (vl x :: st) I) : zG p l e R s m args below meth c nL D b0 tA sa cells slots Q K pc (some (vl x) :: r) st I := zr_lloadN X (i := 0) rfl rfl hd k
theorem zr_lload1 (X : zX p l e R s m args below meth c own cc nL ret D b0 tA sa sv) {x : Int64} {a0 : Option AV} {r : List (Option AV)} (hd : decode cc pc = .ok (.lload_n 1, 1)) (k : zG p l e R s m args below meth c nL D b0 tA sa cells slots Q K (pc + 1) (a0 :: some (vl x) :: r) (vl x :: st) I) : zG p l e R s m args below meth c nL D b0 tA sa cells slots Q K pc (a0 :: some (vl x) :: r) st I := zr_lloadN X (i := 1) rfl rfl hd k
theorem zr_lload2 (X : zX p l e R s m args below meth c own cc nL ret D b0 tA sa sv) {x : Int64} {a0 a1 : Option AV} {r : List (Option AV)} (hd : decode cc pc = .ok (.lload_n 2, 1)) (k : zG p l e R s m args below meth c nL D b0 tA sa cells slots Q K (pc + 1) (a0 :: a1 :: some (vl x) :: r) (vl x :: st) I) : zG p l e R s m args below meth c nL D b0 tA sa cells slots Q K pc (a0 :: a1 :: some (vl x) :: r) st I := zr_lloadN X (i := 2) rfl rfl hd k
theorem zr_lload3 (X : zX p l e R s m args below meth c own cc nL ret D b0 tA sa sv) {x : Int64} {a0 a1 a2 : Option AV} {r : List (Option AV)} (hd : decode cc pc = .ok (.lload_n 3, 1)) (k : zG p l e R s m args below meth c nL D b0 tA sa cells slots Q K (pc + 1) (a0 :: a1 :: a2 :: some (vl x) :: r) (vl x :: st) I) : zG p l e R s m args below meth c nL D b0 tA sa cells slots Q K pc (a0 :: a1 :: a2 :: some (vl x) :: r) st I := zr_lloadN X (i := 3) rfl rfl hd k
theorem zr_lload4 (X : zX p l e R s m args below meth c own cc nL ret D b0 tA sa sv) {x : Int64} {a0 a1 a2 a3 : Option AV} {r : List (Option AV)} (hd : decode cc pc = .ok (.lload 4, 2)) (k : zG p l e R s m args below meth c nL D b0 tA sa cells slots Q K (pc + 2) (a0 :: a1 :: a2 :: a3 :: some (vl x) :: r) (vl x :: st) I) : zG p l e R s m args below meth c nL D b0 tA sa cells slots Q K pc (a0 :: a1 :: a2 :: a3 :: some (vl x) :: r) st I := zr_lloadW X (i := 4) rfl hd k
theorem zr_lload5 (X : zX p l e R s m args below meth c own cc nL ret D b0 tA sa sv) {x : Int64} {a0 a1 a2 a3 a4 : Option AV} {r : List (Option AV)} (hd : decode cc pc = .ok (.lload 5, 2)) (k : zG p l e R s m args below meth c nL D b0 tA sa cells slots Q K (pc + 2) (a0 :: a1 :: a2 :: a3 :: a4 :: some (vl x) :: r) (vl x :: st) I) : zG p l e R s m args below meth c nL D b0 tA sa cells slots Q K pc (a0 :: a1 :: a2 :: a3 :: a4 :: some (vl x) :: r) st I := zr_lloadW X (i := 5) rfl hd k
theorem zr_lload6 (X : zX p l e R s m args below meth c own cc nL ret D b0 tA sa sv) {x : Int64} {a0 a1 a2 a3 a4 a5 : Option AV} {r : List (Option AV)} (hd : decode cc pc = .ok (.lload 6, 2)) (k : zG p l e R s m args below meth c nL D b0 tA sa cells slots Q K (pc + 2) (a0 :: a1 :: a2 :: a3 :: a4 :: a5 :: some (vl x) :: r) (vl x :: st) I) : zG p l e R s m args below meth c nL D b0 tA sa cells slots Q K pc (a0 :: a1 :: a2 :: a3 :: a4 :: a5 :: some (vl x) :: r) st I := zr_lloadW X (i := 6) rfl hd k
theorem zr_lload7 (X : zX p l e R s m args below meth c own cc nL ret D b0 tA sa sv) {x : Int64} {a0 a1 a2 a3 a4 a5 a6 : Option AV} {r : List (Option AV)} (hd : decode cc pc = .ok (.lload 7, 2)) (k : zG p l e R s m args below meth c nL D b0 tA sa cells slots Q K (pc + 2) (a0 :: a1 :: a2 :: a3 :: a4 :: a5 :: a6 :: some (vl x) :: r) (vl x :: st) I) : zG p l e R s m args below meth c nL D b0 tA sa cells slots Q K pc (a0 :: a1 :: a2 :: a3 :: a4 :: a5 :: a6 :: some (vl x) :: r) st I := zr_lloadW X (i := 7) rfl hd k
theorem zr_lload8 (X : zX p l e R s m args below meth c own cc nL ret D b0 tA sa sv) {x : Int64} {a0 a1 a2 a3 a4 a5 a6 a7 : Option AV} {r : List (Option AV)} (hd : decode cc pc = .ok (.lload 8, 2)) (k : zG p l e R s m args below meth c nL D b0 tA sa cells slots Q K (pc + 2) (a0 :: a1 :: a2 :: a3 :: a4 :: a5 :: a6 :: a7 :: some (vl x) :: r) (vl x :: st) I) : zG p l e R s m args below meth c nL D b0 tA sa cells slots Q K pc (a0 :: a1 :: a2 :: a3 :: a4 :: a5 :: a6 :: a7 :: some (vl x) :: r) st I := zr_lloadW X (i := 8) rfl hd k
theorem zr_istore0 (X : zX p l e R s m args below meth c own cc nL ret D b0 tA sa sv) {x : Int32} {old : Option AV} {r : List (Option AV)} (hn : 0 < nL) (hd : decode cc pc = .ok (.istore_n 0, 1)) (k : zG p l e R s m args below meth c nL D b0 tA sa cells slots Q K (pc + 1) (some (vi x) :: r) st I) : zG p l e R s m args below meth c nL D b0 tA sa cells slots Q K pc (old :: r) (vi x :: st) I := zr_istoreN X (i := 0) rfl hn (fun k9 h9 => absurd h9 (Nat.succ_ne_zero k9)) hd k
theorem zr_istore1 (X : zX p l e R s m args below meth c own cc nL ret D b0 tA sa sv) {x : Int32} {a0 : Option AV} {old : Option AV} {r : List (Option AV)} (hn : 1 < nL) (hz9 : z1 a0 = true) (hd : decode cc pc = .ok (.istore_n 1, 1)) (k : zG p l e R s m args below meth c nL D b0 tA sa cells slots Q K (pc + 1) (a0 :: some (vi x) :: r) st I) : zG p l e R s m args below meth c nL D b0 tA sa cells slots Q K pc (a0 :: old :: r) (vi x :: st) I := zr_istoreN X (i := 1) rfl hn (fun k9 h9 w9 hw9 => by cases (Nat.succ.inj h9 : k9 = 0); cases hw9; exact hz9) hd k
theorem zr_istore2 (X : zX p l e R s m args below meth c own cc nL ret D b0 tA sa sv) {x : Int32} {a0 a1 : Option AV} {old : Option AV} {r : List (Option AV)} (hn : 2 < nL) (hz9 : z1 a1 = true) (hd : decode cc pc = .ok (.istore_n 2, 1)) (k : zG p l e R s m args below meth c nL D b0 tA sa cells slots Q K (pc + 1) (a0 :: a1 :: some (vi x) :: r) st I) : zG p l e R s m args below meth c nL D b0 tA sa cells slots Q K pc (a0 :: a1 :: old :: r) (vi x :: st) I := zr_istoreN X (i := 2) rfl hn (fun k9 h9 w9 hw9 => by cases (Nat.succ.inj h9 : k9 = 1); cases hw9; exact hz9) hd k
theorem zr_istore3 (X : zX p l e R s m args below meth c own cc nL ret D b0 tA sa sv) {x : Int32} {a0 a1 a2 : Option AV} {old : Option AV} {r : List (Option AV)} (hn : 3 < nL) (hz9 : z1 a2 = true) (hd : decode cc pc = .ok (.istore_n 3, 1)) (k : zG p l e R s m args below meth c nL D b0 tA sa cells slots Q K (pc + 1) (a0 :: a1 :: a2 :: some (vi x) :: r) st I) : zG p l e R s m args below meth c nL D b0 tA sa cells slots Q K pc (a0 :: a1 :: a2 :: old :: r) (vi x :: st) I := zr_istoreN X (i := 3) rfl hn (fun k9 h9 w9 hw9 => by cases (Nat.succ.inj h9 : k9 = 2); cases hw9; exact hz9) hd k
theorem zr_istore4 (X : zX p l e R s m args below meth c own cc nL ret D b0 tA sa sv) {x : Int32} {a0 a1 a2 a3 : Option AV} {old : Option AV} {r : List (Option AV)} (hn : 4 < nL) (hz9 : z1 a3 = true) (hd : decode cc pc = .ok (.istore 4, 2)) (k : zG p l e R s m args below meth c nL D b0 tA sa cells slots Q K (pc + 2) (a0 :: a1 :: a2 :: a3 :: some (vi x) :: r) st I) : zG p l e R s m args below meth c nL D b0 tA sa cells slots Q K pc (a0 :: a1 :: a2 :: a3 :: old :: r) (vi x :: st) I := zr_istoreW X (i := 4) hn (fun k9 h9 w9 hw9 => by cases (Nat.succ.inj h9 : k9 = 3); cases hw9; exact hz9) hd k
theorem zr_istore5 (X : zX p l e R s m args below meth c own cc nL ret D b0 tA sa sv) {x : Int32} {a0 a1 a2 a3 a4 : Option AV} {old : Option AV} {r : List (Option AV)} (hn : 5 < nL) (hz9 : z1 a4 = true) (hd : decode cc pc = .ok (.istore 5, 2)) (k : zG p l e R s m args below meth c nL D b0 tA sa cells slots Q K (pc + 2) (a0 :: a1 :: a2 :: a3 :: a4 :: some (vi x) :: r) st I) : zG p l e R s m args below meth c nL D b0 tA sa cells slots Q K pc (a0 :: a1 :: a2 :: a3 :: a4 :: old :: r) (vi x :: st) I := zr_istoreW X (i := 5) hn (fun k9 h9 w9 hw9 => by cases (Nat.succ.inj h9 : k9 = 4); cases hw9; exact hz9) hd k
theorem zr_istore6 (X : zX p l e R s m args below meth c own cc nL ret D b0 tA sa sv) {x : Int32} {a0 a1 a2 a3 a4 a5 : Option AV} {old : Option AV} {r : List (Option AV)} (hn : 6 < nL) (hz9 : z1 a5 = true) (hd : decode cc pc = .ok (.istore 6, 2)) (k : zG p l e R s m args below meth c nL D b0 tA sa cells slots Q K (pc + 2) (a0 :: a1 :: a2 :: a3 :: a4 :: a5 :: some (vi x) :: r) st I) : zG p l e R s m args below meth c nL D b0 tA sa cells slots Q K pc (a0 :: a1 :: a2 :: a3 :: a4 :: a5 :: old :: r) (vi x :: st) I := zr_istoreW X (i := 6) hn (fun k9 h9 w9 hw9 => by cases (Nat.succ.inj h9 : k9 = 5); cases hw9; exact hz9) hd k
theorem zr_istore7 (X : zX p l e R s m args below meth c own cc nL ret D b0 tA sa sv) {x : Int32} {a0 a1 a2 a3 a4 a5 a6 : Option AV} {old : Option AV} {r : List (Option AV)} (hn : 7 < nL) (hz9 : z1 a6 = true) (hd : decode cc pc = .ok (.istore 7, 2)) (k : zG p l e R s m args below meth c nL D b0 tA sa cells slots Q K (pc + 2) (a0 :: a1 :: a2 :: a3 :: a4 :: a5 :: a6 :: some (vi x) :: r) st I) : zG p l e R s m args below meth c nL D b0 tA sa cells slots Q K pc (a0 :: a1 :: a2 :: a3 :: a4 :: a5 :: a6 :: old :: r) (vi x :: st) I := zr_istoreW X (i := 7) hn (fun k9 h9 w9 hw9 => by cases (Nat.succ.inj h9 : k9 = 6); cases hw9; exact hz9) hd k
theorem zr_istore8 (X : zX p l e R s m args below meth c own cc nL ret D b0 tA sa sv) {x : Int32} {a0 a1 a2 a3 a4 a5 a6 a7 : Option AV} {old : Option AV} {r : List (Option AV)} (hn : 8 < nL) (hz9 : z1 a7 = true) (hd : decode cc pc = .ok (.istore 8, 2)) (k : zG p l e R s m args below meth c nL D b0 tA sa cells slots Q K (pc + 2) (a0 :: a1 :: a2 :: a3 :: a4 :: a5 :: a6 :: a7 :: some (vi x) :: r) st I) : zG p l e R s m args below meth c nL D b0 tA sa cells slots Q K pc (a0 :: a1 :: a2 :: a3 :: a4 :: a5 :: a6 :: a7 :: old :: r) (vi x :: st) I := zr_istoreW X (i := 8) hn (fun k9 h9 w9 hw9 => by cases (Nat.succ.inj h9 : k9 = 7); cases hw9; exact hz9) hd k
theorem zr_astore0 (X : zX p l e R s m args below meth c own cc nL ret D b0 tA sa sv) {x q : Nat} {old : Option AV} {r : List (Option AV)} (hn : 0 < nL) (hd : decode cc pc = .ok (.astore_n 0, 1)) (k : zG p l e R s m args below meth c nL D b0 tA sa cells slots Q K (pc + 1) (some (vr x q) :: r) st I) : zG p l e R s m args below meth c nL D b0 tA sa cells slots Q K pc (old :: r) (vr x q :: st) I := zr_astoreN X (i := 0) rfl hn (fun k9 h9 => absurd h9 (Nat.succ_ne_zero k9)) hd k
theorem zr_astore1 (X : zX p l e R s m args below meth c own cc nL ret D b0 tA sa sv) {x q : Nat} {a0 : Option AV} {old : Option AV} {r : List (Option AV)} (hn : 1 < nL) (hz9 : z1 a0 = true) (hd : decode cc pc = .ok (.astore_n 1, 1)) (k : zG p l e R s m args below meth c nL D b0 tA sa cells slots Q K (pc + 1) (a0 :: some (vr x q) :: r) st I) : zG p l e R s m args below meth c nL D b0 tA sa cells slots Q K pc (a0 :: old :: r) (vr x q :: st) I := zr_astoreN X (i := 1) rfl hn (fun k9 h9 w9 hw9 => by cases (Nat.succ.inj h9 : k9 = 0); cases hw9; exact hz9) hd k
theorem zr_astore2 (X : zX p l e R s m args below meth c own cc nL ret D b0 tA sa sv) {x q : Nat} {a0 a1 : Option AV} {old : Option AV} {r : List (Option AV)} (hn : 2 < nL) (hz9 : z1 a1 = true) (hd : decode cc pc = .ok (.astore_n 2, 1)) (k : zG p l e R s m args below meth c nL D b0 tA sa cells slots Q K (pc + 1) (a0 :: a1 :: some (vr x q) :: r) st I) : zG p l e R s m args below meth c nL D b0 tA sa cells slots Q K pc (a0 :: a1 :: old :: r) (vr x q :: st) I := zr_astoreN X (i := 2) rfl hn (fun k9 h9 w9 hw9 => by cases (Nat.succ.inj h9 : k9 = 1); cases hw9; exact hz9) hd k
theorem zr_astore3 (X : zX p l e R s m args below meth c own cc nL ret D b0 tA sa sv) {x q : Nat} {a0 a1 a2 : Option AV} {old : Option AV} {r : List (Option AV)} (hn : 3 < nL) (hz9 : z1 a2 = true) (hd : decode cc pc = .ok (.astore_n 3, 1)) (k : zG p l e R s m args below meth c nL D b0 tA sa cells slots Q K (pc + 1) (a0 :: a1 :: a2 :: some (vr x q) :: r) st I) : zG p l e R s m args below meth c nL D b0 tA sa cells slots Q K pc (a0 :: a1 :: a2 :: old :: r) (vr x q :: st) I := zr_astoreN X (i := 3) rfl hn (fun k9 h9 w9 hw9 => by cases (Nat.succ.inj h9 : k9 = 2); cases hw9; exact hz9) hd k
theorem zr_astore4 (X : zX p l e R s m args below meth c own cc nL ret D b0 tA sa sv) {x q : Nat} {a0 a1 a2 a3 : Option AV} {old : Option AV} {r : List (Option AV)} (hn : 4 < nL) (hz9 : z1 a3 = true) (hd : decode cc pc = .ok (.astore 4, 2)) (k : zG p l e R s m args below meth c nL D b0 tA sa cells slots Q K (pc + 2) (a0 :: a1 :: a2 :: a3 :: some (vr x q) :: r) st I) : zG p l e R s m args below meth c nL D b0 tA sa cells slots Q K pc (a0 :: a1 :: a2 :: a3 :: old :: r) (vr x q :: st) I := zr_astoreW X (i := 4) hn (fun k9 h9 w9 hw9 => by cases (Nat.succ.inj h9 : k9 = 3); cases hw9; exact hz9) hd k
theorem zr_astore5 (X : zX p l e R s m args below meth c own cc nL ret D b0 tA sa sv) {x q : Nat} {a0 a1 a2 a3 a4 : Option AV} {old : Option AV} {r : List (Option AV)} (hn : 5 < nL) (hz9 : z1 a4 = true) (hd : decode cc pc = .ok (.astore 5, 2)) (k : zG p l e R s m args below meth c nL D b0 tA sa cells slots Q K (pc + 2) (a0 :: a1 :: a2 :: a3 :: a4 :: some (vr x q) :: r) st I) : zG p l e R s m args below meth c nL D b0 tA sa cells slots Q K pc (a0 :: a1 :: a2 :: a3 :: a4 :: old :: r) (vr x q :: st) I := zr_astoreW X (i := 5) hn (fun k9 h9 w9 hw9 => by cases (Nat.succ.inj h9 : k9 = 4); cases hw9; exact hz9) hd k
theorem zr_astore6 (X : zX p l e R s m args below meth c own cc nL ret D b0 tA sa sv) {x q : Nat} {a0 a1 a2 a3 a4 a5 : Option AV} {old : Option AV} {r : List (Option AV)} (hn : 6 < nL) (hz9 : z1 a5 = true) (hd : decode cc pc = .ok (.astore 6, 2)) (k : zG p l e R s m args below meth c nL D b0 tA sa cells slots Q K (pc + 2) (a0 :: a1 :: a2 :: a3 :: a4 :: a5 :: some (vr x q) :: r) st I) : zG p l e R s m args below meth c nL D b0 tA sa cells slots Q K pc (a0 :: a1 :: a2 :: a3 :: a4 :: a5 :: old :: r) (vr x q :: st) I := zr_astoreW X (i := 6) hn (fun k9 h9 w9 hw9 => by cases (Nat.succ.inj h9 : k9 = 5); cases hw9; exact hz9) hd k
theorem zr_astore7 (X : zX p l e R s m args below meth c own cc nL ret D b0 tA sa sv) {x q : Nat} {a0 a1 a2 a3 a4 a5 a6 : Option AV} {old : Option AV} {r : List (Option AV)} (hn : 7 < nL) (hz9 : z1 a6 = true) (hd : decode cc pc = .ok (.astore 7, 2)) (k : zG p l e R s m args below meth c nL D b0 tA sa cells slots Q K (pc + 2) (a0 :: a1 :: a2 :: a3 :: a4 :: a5 :: a6 :: some (vr x q) :: r) st I) : zG p l e R s m args below meth c nL D b0 tA sa cells slots Q K pc (a0 :: a1 :: a2 :: a3 :: a4 :: a5 :: a6 :: old :: r) (vr x q :: st) I := zr_astoreW X (i := 7) hn (fun k9 h9 w9 hw9 => by cases (Nat.succ.inj h9 : k9 = 6); cases hw9; exact hz9) hd k
theorem zr_astore8 (X : zX p l e R s m args below meth c own cc nL ret D b0 tA sa sv) {x q : Nat} {a0 a1 a2 a3 a4 a5 a6 a7 : Option AV} {old : Option AV} {r : List (Option AV)} (hn : 8 < nL) (hz9 : z1 a7 = true) (hd : decode cc pc = .ok (.astore 8, 2)) (k : zG p l e R s m args below meth c nL D b0 tA sa cells slots Q K (pc + 2) (a0 :: a1 :: a2 :: a3 :: a4 :: a5 :: a6 :: a7 :: some (vr x q) :: r) st I) : zG p l e R s m args below meth c nL D b0 tA sa cells slots Q K pc (a0 :: a1 :: a2 :: a3 :: a4 :: a5 :: a6 :: a7 :: old :: r) (vr x q :: st) I := zr_astoreW X (i := 8) hn (fun k9 h9 w9 hw9 => by cases (Nat.succ.inj h9 : k9 = 7); cases hw9; exact hz9) hd k
theorem zr_iinc0 (X : zX p l e R s m args below meth c own cc nL ret D b0 tA sa sv) {x v : Int32} {n : Int} {r : List (Option AV)} (hx : x + Int32.ofInt n = v) (hn : 0 < nL) (hd : decode cc pc = .ok (.iinc 0 n, 3)) (k : zG p l e R s m args below meth c nL D b0 tA sa cells slots Q K (pc + 3) (some (vi v) :: r) st I) : zG p l e R s m args below meth c nL D b0 tA sa cells slots Q K pc (some (vi x) :: r) st I := zr_iincW X (i := 0) rfl hx hn (fun k9 h9 => absurd h9 (Nat.succ_ne_zero k9)) hd k
theorem zr_iinc1 (X : zX p l e R s m args below meth c own cc nL ret D b0 tA sa sv) {x v : Int32} {n : Int} {a0 : Option AV} {r : List (Option AV)} (hx : x + Int32.ofInt n = v) (hn : 1 < nL) (hz9 : z1 a0 = true) (hd : decode cc pc = .ok (.iinc 1 n, 3)) (k : zG p l e R s m args below meth c nL D b0 tA sa cells slots Q K (pc + 3) (a0 :: some (vi v) :: r) st I) : zG p l e R s m args below meth c nL D b0 tA sa cells slots Q K pc (a0 :: some (vi x) :: r) st I := zr_iincW X (i := 1) rfl hx hn (fun k9 h9 w9 hw9 => by cases (Nat.succ.inj h9 : k9 = 0); cases hw9; exact hz9) hd k
theorem zr_iinc2 (X : zX p l e R s m args below meth c own cc nL ret D b0 tA sa sv) {x v : Int32} {n : Int} {a0 a1 : Option AV} {r : List (Option AV)} (hx : x + Int32.ofInt n = v) (hn : 2 < nL) (hz9 : z1 a1 = true) (hd : decode cc pc = .ok (.iinc 2 n, 3)) (k : zG p l e R s m args below meth c nL D b0 tA sa cells slots Q K (pc + 3) (a0 :: a1 :: some (vi v) :: r) st I) : zG p l e R s m args below meth c nL D b0 tA sa cells slots Q K pc (a0 :: a1 :: some (vi x) :: r) st I := zr_iincW X (i := 2) rfl hx hn (fun k9 h9 w9 hw9 => by cases (Nat.succ.inj h9 : k9 = 1); cases hw9; exact hz9) hd k
theorem zr_iinc3 (X : zX p l e R s m args below meth c own cc nL ret D b0 tA sa sv) {x v : Int32} {n : Int} {a0 a1 a2 : Option AV} {r : List (Option AV)} (hx : x + Int32.ofInt n = v) (hn : 3 < nL) (hz9 : z1 a2 = true) (hd : decode cc pc = .ok (.iinc 3 n, 3)) (k : zG p l e R s m args below meth c nL D b0 tA sa cells slots Q K (pc + 3) (a0 :: a1 :: a2 :: some (vi v) :: r) st I) : zG p l e R s m args below meth c nL D b0 tA sa cells slots Q K pc (a0 :: a1 :: a2 :: some (vi x) :: r) st I := zr_iincW X (i := 3) rfl hx hn (fun k9 h9 w9 hw9 => by cases (Nat.succ.inj h9 : k9 = 2); cases hw9; exact hz9) hd k
theorem zr_iinc4 (X : zX p l e R s m args below meth c own cc nL ret D b0 tA sa sv) {x v : Int32} {n : Int} {a0 a1 a2 a3 : Option AV} {r : List (Option AV)} (hx : x + Int32.ofInt n = v) (hn : 4 < nL) (hz9 : z1 a3 = true) (hd : decode cc pc = .ok (.iinc 4 n, 3)) (k : zG p l e R s m args below meth c nL D b0 tA sa cells slots Q K (pc + 3) (a0 :: a1 :: a2 :: a3 :: some (vi v) :: r) st I) : zG p l e R s m args below meth c nL D b0 tA sa cells slots Q K pc (a0 :: a1 :: a2 :: a3 :: some (vi x) :: r) st I := zr_iincW X (i := 4) rfl hx hn (fun k9 h9 w9 hw9 => by cases (Nat.succ.inj h9 : k9 = 3); cases hw9; exact hz9) hd k
theorem zr_iinc5 (X : zX p l e R s m args below meth c own cc nL ret D b0 tA sa sv) {x v : Int32} {n : Int} {a0 a1 a2 a3 a4 : Option AV} {r : List (Option AV)} (hx : x + Int32.ofInt n = v) (hn : 5 < nL) (hz9 : z1 a4 = true) (hd : decode cc pc = .ok (.iinc 5 n, 3)) (k : zG p l e R s m args below meth c nL D b0 tA sa cells slots Q K (pc + 3) (a0 :: a1 :: a2 :: a3 :: a4 :: some (vi v) :: r) st I) : zG p l e R s m args below meth c nL D b0 tA sa cells slots Q K pc (a0 :: a1 :: a2 :: a3 :: a4 :: some (vi x) :: r) st I := zr_iincW X (i := 5) rfl hx hn (fun k9 h9 w9 hw9 => by cases (Nat.succ.inj h9 : k9 = 4); cases hw9; exact hz9) hd k
theorem zr_iinc6 (X : zX p l e R s m args below meth c own cc nL ret D b0 tA sa sv) {x v : Int32} {n : Int} {a0 a1 a2 a3 a4 a5 : Option AV} {r : List (Option AV)} (hx : x + Int32.ofInt n = v) (hn : 6 < nL) (hz9 : z1 a5 = true) (hd : decode cc pc = .ok (.iinc 6 n, 3)) (k : zG p l e R s m args below meth c nL D b0 tA sa cells slots Q K (pc + 3) (a0 :: a1 :: a2 :: a3 :: a4 :: a5 :: some (vi v) :: r) st I) : zG p l e R s m args below meth c nL D b0 tA sa cells slots Q K pc (a0 :: a1 :: a2 :: a3 :: a4 :: a5 :: some (vi x) :: r) st I := zr_iincW X (i := 6) rfl hx hn (fun k9 h9 w9 hw9 => by cases (Nat.succ.inj h9 : k9 = 5); cases hw9; exact hz9) hd k
theorem zr_iinc7 (X : zX p l e R s m args below meth c own cc nL ret D b0 tA sa sv) {x v : Int32} {n : Int} {a0 a1 a2 a3 a4 a5 a6 : Option AV} {r : List (Option AV)} (hx : x + Int32.ofInt n = v) (hn : 7 < nL) (hz9 : z1 a6 = true) (hd : decode cc pc = .ok (.iinc 7 n, 3)) (k : zG p l e R s m args below meth c nL D b0 tA sa cells slots Q K (pc + 3) (a0 :: a1 :: a2 :: a3 :: a4 :: a5 :: a6 :: some (vi v) :: r) st I) : zG p l e R s m args below meth c nL D b0 tA sa cells slots Q K pc (a0 :: a1 :: a2 :: a3 :: a4 :: a5 :: a6 :: some (vi x) :: r) st I := zr_iincW X (i := 7) rfl hx hn (fun k9 h9 w9 hw9 => by cases (Nat.succ.inj h9 : k9 = 6); cases hw9; exact hz9) hd k
theorem zr_iinc8 (X : zX p l e R s m args below meth c own cc nL ret D b0 tA sa sv) {x v : Int32} {n : Int} {a0 a1 a2 a3 a4 a5 a6 a7 : Option AV} {r : List (Option AV)} (hx : x + Int32.ofInt n = v) (hn : 8 < nL) (hz9 : z1 a7 = true) (hd : decode cc pc = .ok (.iinc 8 n, 3)) (k : zG p l e R s m args below meth c nL D b0 tA sa cells slots Q K (pc + 3) (a0 :: a1 :: a2 :: a3 :: a4 :: a5 :: a6 :: a7 :: some (vi v) :: r) st I) : zG p l e R s m args below meth c nL D b0 tA sa cells slots Q K pc (a0 :: a1 :: a2 :: a3 :: a4 :: a5 :: a6 :: a7 :: some (vi x) :: r) st I := zr_iincW X (i := 8) rfl hx hn (fun k9 h9 w9 hw9 => by cases (Nat.succ.inj h9 : k9 = 7); cases hw9; exact hz9) hd k
theorem zlv_store2 {ls' : Array Slot} {nL i : Nat} {lv : List (Option AV)} {l : List (Nat × Value)} {v : AV} (h2 : ∀ (j : Nat) (w : AV), lv[j]? = some (some w) → (j, zv w) ∈ l) (hz : ∀ k : Nat, k + 1 = i → ∀ w, lv[k]? = some w → z1 w = true)
    (h : lv_has ls' nL ((i, zv v) :: l.filter (fun q => !(q.1 == i) && (!(q.1 == i + 1) && !(q.1 + 1 == i && q.2.category == 2))))) : zlv ls' nL ((lv.set i (some v)).set (i + 1) none) := by
  refine ⟨_, h, fun j w hw => ?_⟩
  by_cases e9 : i + 1 = j
  · subst e9
    rw [List.getElem?_set] at hw
    simp only [if_true] at hw
    split at hw <;> cases hw
  · rw [List.getElem?_set_ne e9] at hw
    by_cases e : i = j
    · subst e
      rw [List.getElem?_set] at hw
      simp only [if_true] at hw
      split at hw
      · cases hw; exact List.mem_cons_self
      · cases hw
    · rw [List.getElem?_set_ne e] at hw
      refine List.mem_cons_of_mem _ (List.mem_filter.mpr ⟨h2 j w hw, ?_⟩)
      have e1 : (j == i) = false := by simp [Ne.symm e]
      have e3 : (j == i + 1) = false := by simp [Ne.symm e9]
      by_cases e2 : j + 1 = i
      · have h9 := hz j e2 _ hw
        have h8 := zcat1 h9
        simp [e1, e3, h8]
      · simp [e1, e2, e3]
theorem zokl_set2 {lv : List (Option AV)} (h : zokl sa K lv) (i : Nat) {v : AV} (hv : zok sa K v) : zokl sa K ((lv.set i (some v)).set (i + 1) none) := by
  intro j w hw
  by_cases e : i + 1 = j
  · subst e
    rw [List.getElem?_set] at hw
    simp only [if_true] at hw
    split at hw <;> cases hw
  · rw [List.getElem?_set_ne e] at hw
    exact zokl_set h i hv j w hw
theorem zr_lstoreN (X : zX p l e R s m args below meth c own cc nL ret D b0 tA sa sv) {x : Int64} {i : Nat} {kk : Fin 4} (hi9 : (kk : Nat) = i) (hn : i + 1 < nL) (hz : ∀ k : Nat, k + 1 = i → ∀ w, lv[k]? = some w → z1 w = true) (hd : decode cc pc = .ok (.lstore_n kk, 1))
    (k : zG p l e R s m args below meth c nL D b0 tA sa cells slots Q K (pc + 1) ((lv.set i (some (vl x))).set (i + 1) none) st I) : zG p l e R s m args below meth c nL D b0 tA sa cells slots Q K pc lv (vl x :: st) I := by
  intro hi hs hl ls hls H locs hP hS
  obtain ⟨l9, h1, h2⟩ := hls
  exact lv_lstore_n X.1 X.2.1 hd hi9 h1 hn rfl (fun ls1 h9 => k hi hs.2 (zokl_set2 hl i trivial) ls1 (zlv_store2 (v := vl x) h2 hz h9) H locs hP hS)
theorem zr_lstoreW (X : zX p l e R s m args below meth c own cc nL ret D b0 tA sa sv) {x : Int64} {i : Nat}  (hn : i + 1 < nL) (hz : ∀ k : Nat, k + 1 = i → ∀ w, lv[k]? = some w → z1 w = true) (hd : decode cc pc = .ok (.lstore i, 2))
    (k : zG p l e R s m args below meth c nL D b0 tA sa cells slots Q K (pc + 2) ((lv.set i (some (vl x))).set (i + 1) none) st I) : zG p l e R s m args below meth c nL D b0 tA sa cells slots Q K pc lv (vl x :: st) I := by
  intro hi hs hl ls hls H locs hP hS
  obtain ⟨l9, h1, h2⟩ := hls
  exact lv_lstore X.1 X.2.1 hd h1 hn rfl (fun ls1 h9 => k hi hs.2 (zokl_set2 hl i trivial) ls1 (zlv_store2 (v := vl x) h2 hz h9) H locs hP hS)
theorem zr_dstoreN (X : zX p l e R s m args below meth c own cc nL ret D b0 tA sa sv) {x : UInt64} {i : Nat} {kk : Fin 4} (hi9 : (kk : Nat) = i) (hn : i + 1 < nL) (hz : ∀ k : Nat, k + 1 = i → ∀ w, lv[k]? = some w → z1 w = true) (hd : decode cc pc = .ok (.dstore_n kk, 1))
    (k : zG p l e R s m args below meth c nL D b0 tA sa cells slots Q K (pc + 1) ((lv.set i (some (vd x))).set (i + 1) none) st I) : zG p l e R s m args below meth c nL D b0 tA sa cells slots Q K pc lv (vd x :: st) I := by
  intro hi hs hl ls hls H locs hP hS
  obtain ⟨l9, h1, h2⟩ := hls
  exact lv_dstore_n X.1 X.2.1 hd hi9 h1 hn rfl (fun ls1 h9 => k hi hs.2 (zokl_set2 hl i trivial) ls1 (zlv_store2 (v := vd x) h2 hz h9) H locs hP hS)
theorem zr_dstoreW (X : zX p l e R s m args below meth c own cc nL ret D b0 tA sa sv) {x : UInt64} {i : Nat}  (hn : i + 1 < nL) (hz : ∀ k : Nat, k + 1 = i → ∀ w, lv[k]? = some w → z1 w = true) (hd : decode cc pc = .ok (.dstore i, 2))
    (k : zG p l e R s m args below meth c nL D b0 tA sa cells slots Q K (pc + 2) ((lv.set i (some (vd x))).set (i + 1) none) st I) : zG p l e R s m args below meth c nL D b0 tA sa cells slots Q K pc lv (vd x :: st) I := by
  intro hi hs hl ls hls H locs hP hS
  obtain ⟨l9, h1, h2⟩ := hls
  exact lv_dstore X.1 X.2.1 hd h1 hn rfl (fun ls1 h9 => k hi hs.2 (zokl_set2 hl i trivial) ls1 (zlv_store2 (v := vd x) h2 hz h9) H locs hP hS)
theorem zr_dloadW (X : zX p l e R s m args below meth c own cc nL ret D b0 tA sa sv) {x : UInt64} {i : Nat} (hv : lv[i]? = some (some (vd x))) (hd : decode cc pc = .ok (.dload i, 2))
    (k : zG p l e R s m args below meth c nL D b0 tA sa cells slots Q K (pc + 2) lv (vd x :: st) I) : zG p l e R s m args below meth c nL D b0 tA sa cells slots Q K pc lv st I := by
  intro hi hs hl ls hls H locs hP hS
  exact lv_dload X.1 X.2.1 hd (zlv_at hls hv) (k hi ⟨trivial, hs⟩ hl ls hls H locs hP hS)
theorem zr_dloadN (X : zX p l e R s m args below meth c own cc nL ret D b0 tA sa sv) {x : UInt64} {i : Nat} {kk : Fin 4} (hi9 : (kk : Nat) = i) (hv : lv[i]? = some (some (vd x))) (hd : decode cc pc = .ok (.dload_n kk, 1))
    (k : zG p l e R s m args below meth c nL D b0 tA sa cells slots Q K (pc + 1) lv (vd x :: st) I) : zG p l e R s m args below meth c nL D b0 tA sa cells slots Q K pc lv st I := by
  intro hi hs hl ls hls H locs hP hS
  exact lv_dload_n X.1 X.2.1 hd hi9 (zlv_at hls hv) (k hi ⟨trivial, hs⟩ hl ls hls H locs hP hS)
theorem zr_if_eq (X : zX p l e R s m args below meth c own cc nL ret D b0 tA sa sv) {x : Int32} {off : Int} {tgt : Nat} (hd : decode cc pc = .ok (.ifCond .eq off, 3)) (ht : (pc : Int) + off = (tgt : Int))
    (kt : x = 0 → zG p l e R s m args below meth c nL D b0 tA sa cells slots Q K tgt lv st I) (kf : ¬ (x = 0) → zG p l e R s m args below meth c nL D b0 tA sa cells slots Q K (pc + 3) lv st I) : zG p l e R s m args below meth c nL D b0 tA sa cells slots Q K pc lv (vi x :: st) I := by
  intro hi hs hl ls hls H locs hP hS
  exact lv_if_eq X.1 X.2.1 hd ht (fun h => kt h hi hs.2 hl ls hls H locs hP hS) (fun h => kf h hi hs.2 hl ls hls H locs hP hS)
theorem zr_icmp_eq (X : zX p l e R s m args below meth c own cc nL ret D b0 tA sa sv) {x y : Int32} {off : Int} {tgt : Nat} (hd : decode cc pc = .ok (.if_icmp .eq off, 3)) (ht : (pc : Int) + off = (tgt : Int))
    (kt : x = y → zG p l e R s m args below meth c nL D b0 tA sa cells slots Q K tgt lv st I) (kf : ¬ (x = y) → zG p l e R s m args below meth c nL D b0 tA sa cells slots Q K (pc + 3) lv st I) : zG p l e R s m args below meth c nL D b0 tA sa cells slots Q K pc lv (vi y :: vi x :: st) I := by
  intro hi hs hl ls hls H locs hP hS
  exact lv_icmp_eq X.1 X.2.1 hd ht (fun h => kt h hi hs.2.2 hl ls hls H locs hP hS) (fun h => kf h hi hs.2.2 hl ls hls H locs hP hS)
theorem zr_if_ne (X : zX p l e R s m args below meth c own cc nL ret D b0 tA sa sv) {x : Int32} {off : Int} {tgt : Nat} (hd : decode cc pc = .ok (.ifCond .ne off, 3)) (ht : (pc : Int) + off = (tgt : Int))
    (kt : ¬ x = 0 → zG p l e R s m args below meth c nL D b0 tA sa cells slots Q K tgt lv st I) (kf : x = 0 → zG p l e R s m args below meth c nL D b0 tA sa cells slots Q K (pc + 3) lv st I) : zG p l e R s m args below meth c nL D b0 tA sa cells slots Q K pc lv (vi x :: st) I := by
  intro hi hs hl ls hls H locs hP hS
  exact lv_if_ne X.1 X.2.1 hd ht (fun h => kt h hi hs.2 hl ls hls H locs hP hS) (fun h => kf h hi hs.2 hl ls hls H locs hP hS)
theorem zr_icmp_ne (X : zX p l e R s m args below meth c own cc nL ret D b0 tA sa sv) {x y : Int32} {off : Int} {tgt : Nat} (hd : decode cc pc = .ok (.if_icmp .ne off, 3)) (ht : (pc : Int) + off = (tgt : Int))
    (kt : ¬ x = y → zG p l e R s m args below meth c nL D b0 tA sa cells slots Q K tgt lv st I) (kf : x = y → zG p l e R s m args below meth c nL D b0 tA sa cells slots Q K (pc + 3) lv st I) : zG p l e R s m args below meth c nL D b0 tA sa cells slots Q K pc lv (vi y :: vi x :: st) I := by
  intro hi hs hl ls hls H locs hP hS
  exact lv_icmp_ne X.1 X.2.1 hd ht (fun h => kt h hi hs.2.2 hl ls hls H locs hP hS) (fun h => kf h hi hs.2.2 hl ls hls H locs hP hS)
theorem zr_if_lt (X : zX p l e R s m args below meth c own cc nL ret D b0 tA sa sv) {x : Int32} {off : Int} {tgt : Nat} (hd : decode cc pc = .ok (.ifCond .lt off, 3)) (ht : (pc : Int) + off = (tgt : Int))
    (kt : x < 0 → zG p l e R s m args below meth c nL D b0 tA sa cells slots Q K tgt lv st I) (kf : ¬ (x < 0) → zG p l e R s m args below meth c nL D b0 tA sa cells slots Q K (pc + 3) lv st I) : zG p l e R s m args below meth c nL D b0 tA sa cells slots Q K pc lv (vi x :: st) I := by
  intro hi hs hl ls hls H locs hP hS
  exact lv_if_lt X.1 X.2.1 hd ht (fun h => kt h hi hs.2 hl ls hls H locs hP hS) (fun h => kf h hi hs.2 hl ls hls H locs hP hS)
theorem zr_icmp_lt (X : zX p l e R s m args below meth c own cc nL ret D b0 tA sa sv) {x y : Int32} {off : Int} {tgt : Nat} (hd : decode cc pc = .ok (.if_icmp .lt off, 3)) (ht : (pc : Int) + off = (tgt : Int))
    (kt : x < y → zG p l e R s m args below meth c nL D b0 tA sa cells slots Q K tgt lv st I) (kf : ¬ (x < y) → zG p l e R s m args below meth c nL D b0 tA sa cells slots Q K (pc + 3) lv st I) : zG p l e R s m args below meth c nL D b0 tA sa cells slots Q K pc lv (vi y :: vi x :: st) I := by
  intro hi hs hl ls hls H locs hP hS
  exact lv_icmp_lt X.1 X.2.1 hd ht (fun h => kt h hi hs.2.2 hl ls hls H locs hP hS) (fun h => kf h hi hs.2.2 hl ls hls H locs hP hS)
theorem zr_if_ge (X : zX p l e R s m args below meth c own cc nL ret D b0 tA sa sv) {x : Int32} {off : Int} {tgt : Nat} (hd : decode cc pc = .ok (.ifCond .ge off, 3)) (ht : (pc : Int) + off = (tgt : Int))
    (kt : 0 ≤ x → zG p l e R s m args below meth c nL D b0 tA sa cells slots Q K tgt lv st I) (kf : ¬ (0 ≤ x) → zG p l e R s m args below meth c nL D b0 tA sa cells slots Q K (pc + 3) lv st I) : zG p l e R s m args below meth c nL D b0 tA sa cells slots Q K pc lv (vi x :: st) I := by
  intro hi hs hl ls hls H locs hP hS
  exact lv_if_ge X.1 X.2.1 hd ht (fun h => kt h hi hs.2 hl ls hls H locs hP hS) (fun h => kf h hi hs.2 hl ls hls H locs hP hS)
theorem zr_icmp_ge (X : zX p l e R s m args below meth c own cc nL ret D b0 tA sa sv) {x y : Int32} {off : Int} {tgt : Nat} (hd : decode cc pc = .ok (.if_icmp .ge off, 3)) (ht : (pc : Int) + off = (tgt : Int))
    (kt : y ≤ x → zG p l e R s m args below meth c nL D b0 tA sa cells slots Q K tgt lv st I) (kf : ¬ (y ≤ x) → zG p l e R s m args below meth c nL D b0 tA sa cells slots Q K (pc + 3) lv st I) : zG p l e R s m args below meth c nL D b0 tA sa cells slots Q K pc lv (vi y :: vi x :: st) I := by
  intro hi hs hl ls hls H locs hP hS
  exact lv_icmp_ge X.1 X.2.1 hd ht (fun h => kt h hi hs.2.2 hl ls hls H locs hP hS) (fun h => kf h hi hs.2.2 hl ls hls H locs hP hS)
theorem zr_if_gt (X : zX p l e R s m args below meth c own cc nL ret D b0 tA sa sv) {x : Int32} {off : Int} {tgt : Nat} (hd : decode cc pc = .ok (.ifCond .gt off, 3)) (ht : (pc : Int) + off = (tgt : Int))
    (kt : 0 < x → zG p l e R s m args below meth c nL D b0 tA sa cells slots Q K tgt lv st I) (kf : ¬ (0 < x) → zG p l e R s m args below meth c nL D b0 tA sa cells slots Q K (pc + 3) lv st I) : zG p l e R s m args below meth c nL D b0 tA sa cells slots Q K pc lv (vi x :: st) I := by
  intro hi hs hl ls hls H locs hP hS
  exact lv_if_gt X.1 X.2.1 hd ht (fun h => kt h hi hs.2 hl ls hls H locs hP hS) (fun h => kf h hi hs.2 hl ls hls H locs hP hS)
theorem zr_icmp_gt (X : zX p l e R s m args below meth c own cc nL ret D b0 tA sa sv) {x y : Int32} {off : Int} {tgt : Nat} (hd : decode cc pc = .ok (.if_icmp .gt off, 3)) (ht : (pc : Int) + off = (tgt : Int))
    (kt : y < x → zG p l e R s m args below meth c nL D b0 tA sa cells slots Q K tgt lv st I) (kf : ¬ (y < x) → zG p l e R s m args below meth c nL D b0 tA sa cells slots Q K (pc + 3) lv st I) : zG p l e R s m args below meth c nL D b0 tA sa cells slots Q K pc lv (vi y :: vi x :: st) I := by
  intro hi hs hl ls hls H locs hP hS
  exact lv_icmp_gt X.1 X.2.1 hd ht (fun h => kt h hi hs.2.2 hl ls hls H locs hP hS) (fun h => kf h hi hs.2.2 hl ls hls H locs hP hS)
theorem zr_if_le (X : zX p l e R s m args below meth c own cc nL ret D b0 tA sa sv) {x : Int32} {off : Int} {tgt : Nat} (hd : decode cc pc = .ok (.ifCond .le off, 3)) (ht : (pc : Int) + off = (tgt : Int))
    (kt : x ≤ 0 → zG p l e R s m args below meth c nL D b0 tA sa cells slots Q K tgt lv st I) (kf : ¬ (x ≤ 0) → zG p l e R s m args below meth c nL D b0 tA sa cells slots Q K (pc + 3) lv st I) : zG p l e R s m args below meth c nL D b0 tA sa cells slots Q K pc lv (vi x :: st) I := by
  intro hi hs hl ls hls H locs hP hS
  exact lv_if_le X.1 X.2.1 hd ht (fun h => kt h hi hs.2 hl ls hls H locs hP hS) (fun h => kf h hi hs.2 hl ls hls H locs hP hS)
theorem zr_icmp_le (X : zX p l e R s m args below meth c own cc nL ret D b0 tA sa sv) {x y : Int32} {off : Int} {tgt : Nat} (hd : decode cc pc = .ok (.if_icmp .le off, 3)) (ht : (pc : Int) + off = (tgt : Int))
    (kt : x ≤ y → zG p l e R s m args below meth c nL D b0 tA sa cells slots Q K tgt lv st I) (kf : ¬ (x ≤ y) → zG p l e R s m args below meth c nL D b0 tA sa cells slots Q K (pc + 3) lv st I) : zG p l e R s m args below meth c nL D b0 tA sa cells slots Q K pc lv (vi y :: vi x :: st) I := by
  intro hi hs hl ls hls H locs hP hS
  exact lv_icmp_le X.1 X.2.1 hd ht (fun h => kt h hi hs.2.2 hl ls hls H locs hP hS) (fun h => kf h hi hs.2.2 hl ls hls H locs hP hS)
theorem zr_goto (X : zX p l e R s m args below meth c own cc nL ret D b0 tA sa sv) {off : Int} {tgt : Nat} (hd : decode cc pc = .ok (.goto off, 3)) (ht : (pc : Int) + off = (tgt : Int)) (k : zG p l e R s m args below meth c nL D b0 tA sa cells slots Q K tgt lv st I) : zG p l e R s m args below meth c nL D b0 tA sa cells slots Q K pc lv st I := by
  intro hi hs hl ls hls H locs hP hS
  exact lv_goto X.1 X.2.1 hd ht (k hi hs hl ls hls H locs hP hS)
/-- a name for the number on the top -/
theorem zr_top {x : Int32} (k : ∀ y : Int32, y = x → zG p l e R s m args below meth c nL D b0 tA sa cells slots Q K pc lv (vi y :: st) I) : zG p l e R s m args below meth c nL D b0 tA sa cells slots Q K pc lv (vi x :: st) I := k x rfl
theorem zr_pc {pc2 : Nat} (h : pc = pc2) (k : zG p l e R s m args below meth c nL D b0 tA sa cells slots Q K pc2 lv st I) : zG p l e R s m args below meth c nL D b0 tA sa cells slots Q K pc lv st I := h ▸ k
theorem zr_lv {lv2 : List (Option AV)} (h : lv = lv2) (k : zG p l e R s m args below meth c nL D b0 tA sa cells slots Q K pc lv2 st I) : zG p l e R s m args below meth c nL D b0 tA sa cells slots Q K pc lv st I := h ▸ k
theorem zr_I {I2 : zI} (h : I = I2) (k : zG p l e R s m args below meth c nL D b0 tA sa cells slots Q K pc lv st I2) : zG p l e R s m args below meth c nL D b0 tA sa cells slots Q K pc lv st I := h ▸ k
/-! fields -/
theorem zok_k {a k : Nat} (h : zok sa K (vr a k)) (hk : k < 24) : K.1 a = some k := by
  rcases h with ⟨_, h⟩ | ⟨h, _⟩
  · exact h
  · exact absurd hk (Nat.not_lt.mpr h)
theorem zob_lt {k : Nat} (h : zob k = true) : k < 24 := by
  unfold zob at h
  simp only [Bool.or_eq_true, Bool.and_eq_true, decide_eq_true_eq] at h
  omega
theorem zok_of {a k : Nat} (h : K.1 a = some k) (hk : k < 24) : zok sa K (vr a k) := Or.inl ⟨hk, h⟩
/-- the tables' facts of a field that an entry of the pool names -/
def zFo (own : String) (index ci j : Nat) : Prop := ∃ (C : String) (T : u_T) (N : Nat) (ty : Nat → FieldType), (∀ w ∈ u_ws C T N, w ∈ zALL) ∧ vwCl[zci ci]? = some (C, T, N) ∧ (j < N ∧ zob ci = true ∧ zfn ci = N ∧ (T j).1 = C) ∧ (∀ k, k < N → parseFieldDescriptor (T k).2.2.1 = some (ty k)) ∧ (∀ a, a < N → ∀ b, b < N → a ≠ b → (T a).2.1 ≠ (T b).2.1) ∧ Cond.fieldLink own index C (T j).2.1 (T j).2.2.1 ∈ zALL ∧ ((zfk ci j, zfd ci j) = (none, none) → (T j).2.2.2 = false ∧ ((zfb ci j = true ∧ ty j = .boolean) ∨ (zfb ci j = false ∧ ty j = .int))) ∧ (zfd ci j ≠ none → (T j).2.2.2 = false ∧ ∀ r : Nat, narrow (ty j) (.ref r) = .ref r ∧ fits (ty j) (.ref r) = true)
/-- the same, of a nest mate's field -/
def zFn (own : String) (index ci j : Nat) : Prop := ∃ (C : String) (T : u_T) (N : Nat) (ty : Nat → FieldType), (∀ w ∈ u_ws C T N, w ∈ zALL) ∧ vwCl[zci ci]? = some (C, T, N) ∧ (j < N ∧ zob ci = true ∧ zfn ci = N ∧ (T j).1 = C) ∧ (∀ k, k < N → parseFieldDescriptor (T k).2.2.1 = some (ty k)) ∧ (∀ a, a < N → ∀ b, b < N → a ≠ b → (T a).2.1 ≠ (T b).2.1) ∧ Cond.fieldLinkNest own index C (T j).2.1 (T j).2.2.1 "GateRow" ∈ lw_tbl ∧ ((zfk ci j, zfd ci j) = (none, none) → (T j).2.2.2 = false ∧ ((zfb ci j = true ∧ ty j = .boolean) ∨ (zfb ci j = false ∧ ty j = .int))) ∧ (zfd ci j ≠ none → (T j).2.2.2 = false ∧ ∀ r : Nat, narrow (ty j) (.ref r) = .ref r ∧ fits (ty j) (.ref r) = true)
def zFx (own : String) (index ci j : Nat) : Prop := zFo own index ci j ∨ zFn own index ci j
theorem zW_getX (X : zX p l e R s m args below meth c own cc nL ret D b0 tA sa sv) {index ci j a : Nat} (F : zFx own index ci j) (hi : zinv K I) (hs : zoks sa K (vr a ci :: st)) {v : Value} (hv : zfv ci a j (K.2 a j) (I a j) = v) (hd : decode cc pc = .ok (.getfield index, 3)) {ls : Array Slot} {rest : List Value}
    (kk : zW p l e R s m args below meth c D b0 cells slots Q (zEof tA K I) (pc + 3) ls (v :: rest)) : zW p l e R s m args below meth c D b0 cells slots Q (zEof tA K I) pc ls (.ref a :: rest) := by
  rcases F with ⟨C, T, N, ty, h1, h2, ⟨h3, h4, h5, h6⟩, h7, h8, h9, h10, h11⟩ | ⟨C, T, N, ty, h1, h2, ⟨h3, h4, h5, h6⟩, h7, h8, h9, h10, h11⟩
  · have hK := zok_k hs.1 (zob_lt h4)
    exact zW_get (ci := zci ci) (fs := zfl ci a (K.2 a) (I a)) X.1 X.2.1 X.2.2.2.2.1 h1 X.2.2.2.1 X.2.2.2.2.2.2.1.1 (by rw [zEof_at hK, zcell, if_pos h4]) h2 j h3 (X.2.2.2.2.1 _ h9) h6 (by rw [zfl_get (by omega), hv]) hd kk
  · have hK := zok_k hs.1 (zob_lt h4)
    exact zW_getN (ci := zci ci) (host := "GateRow") (fs := zfl ci a (K.2 a) (I a)) X.1 X.2.1 X.2.2.2.2.1 h1 X.2.2.2.1 X.2.2.2.2.2.2.1.1 (by rw [zEof_at hK, zcell, if_pos h4]) h2 j h3 (va_Nw.use rfl (X.2.2.2.2.2.2.1.2.2.1 _ h9 rfl)) h6 (by rw [zfl_get (by omega), hv]) hd kk
theorem zr_getI (X : zX p l e R s m args below meth c own cc nL ret D b0 tA sa sv) {index ci j a : Nat} (F : zFx own index ci j) (hn : (zfk ci j, zfd ci j) = (none, none)) (hd : decode cc pc = .ok (.getfield index, 3))
    (k : zG p l e R s m args below meth c nL D b0 tA sa cells slots Q K (pc + 3) lv (vi (I a j) :: st) I) : zG p l e R s m args below meth c nL D b0 tA sa cells slots Q K pc lv (vr a ci :: st) I := by
  intro hi hs hl ls hls
  exact zW_getX X F hi hs (by obtain ⟨e1, e2⟩ := Prod.mk.inj hn; unfold zfv; rw [e1, e2]; rfl) hd (k hi ⟨trivial, hs.2⟩ hl ls hls)
theorem zr_getZ (X : zX p l e R s m args below meth c own cc nL ret D b0 tA sa sv) {index ci j a : Nat} (F : zFx own index ci j) (hn : (zfk ci j, zfd ci j) = (none, none)) (hz : zfb ci j = true) (hc9 : zob ci = true) (hd : decode cc pc = .ok (.getfield index, 3))
    (k : I a j = 0 ∨ I a j = 1 → zG p l e R s m args below meth c nL D b0 tA sa cells slots Q K (pc + 3) lv (vi (I a j) :: st) I) : zG p l e R s m args below meth c nL D b0 tA sa cells slots Q K pc lv (vr a ci :: st) I := by
  intro hi hs hl ls hls
  exact zW_getX X F hi hs (by obtain ⟨e1, e2⟩ := Prod.mk.inj hn; unfold zfv; rw [e1, e2]; rfl) hd (k ((hi a ci (zok_k hs.1 (zob_lt hc9))).2.2.2.1 j hz) hi ⟨trivial, hs.2⟩ hl ls hls)
theorem zr_getR (X : zX p l e R s m args below meth c own cc nL ret D b0 tA sa sv) {index ci j a o q : Nat} (F : zFx own index ci j) (hn : zfk ci j = some (o, q)) (hc9 : zob ci = true) (hq : q < 24) (hd : decode cc pc = .ok (.getfield index, 3))
    (k : zG p l e R s m args below meth c nL D b0 tA sa cells slots Q K (pc + 3) lv (vr (a + o) q :: st) I) : zG p l e R s m args below meth c nL D b0 tA sa cells slots Q K pc lv (vr a ci :: st) I := by
  intro hi hs hl ls hls
  exact zW_getX X F hi hs (by unfold zfv; rw [hn]; rfl) hd (k hi ⟨zok_of ((hi a ci (zok_k hs.1 (zob_lt hc9))).2.1 j _ hn) hq, hs.2⟩ hl ls hls)
theorem znarrow {x : Int32} {t : FieldType} (h : (t = .boolean ∧ (x = 0 ∨ x = 1)) ∨ t = .int) : narrow t (.int x) = .int x ∧ fits t (.int x) = true := by
  rcases h with ⟨rfl, rfl | rfl⟩ | rfl
  · exact ⟨by decide, by decide⟩
  · exact ⟨by decide, by decide⟩
  · exact ⟨rfl, rfl⟩
theorem zr_putI (X : zX p l e R s m args below meth c own cc nL ret D b0 tA sa sv) {index ci j a : Nat} {x : Int32} (F : zFx own index ci j) (hn : (zfk ci j, zfd ci j) = (none, none)) (hx : zfb ci j = false ∨ (x = 0 ∨ x = 1)) (hd : decode cc pc = .ok (.putfield index, 3))
    (k : zG p l e R s m args below meth c nL D b0 tA sa cells slots Q K (pc + 3) lv st (zput I a j x)) : zG p l e R s m args below meth c nL D b0 tA sa cells slots Q K pc lv (vi x :: vr a ci :: st) I := by
  intro hi hs hl ls hls
  rcases F with ⟨C, T, N, ty, h1, h2, ⟨h3, h4, h5, h6⟩, h7, h8, h9, h10, h11⟩ | ⟨C, T, N, ty, h1, h2, ⟨h3, h4, h5, h6⟩, h7, h8, h9, h10, h11⟩
  · have hK := zok_k hs.2.1 (zob_lt h4)
    obtain ⟨g1, g2⟩ := h10 hn
    have g3 : narrow (ty j) (.int x) = .int x ∧ fits (ty j) (.int x) = true := znarrow (by
      rcases g2 with ⟨g4, g5⟩ | ⟨g4, g5⟩
      · rcases hx with hx | hx
        · rw [g4] at hx; cases hx
        · exact Or.inl ⟨g5, hx⟩
      · exact Or.inr g5)
    refine zW_put (ci := zci ci) (fs := zfl ci a (K.2 a) (I a)) X.1 X.2.1 X.2.2.2.2.1 h1 ty h7 h8 X.2.2.2.1 X.2.2.2.2.2.2.1.1 (by rw [zEof_at hK, zcell, if_pos h4]) h2 j h3 (X.2.2.2.2.1 _ h9) h6 g1 (h7 j h3) g3.1 g3.2 (by rw [zfl_len]; omega) hd ?_
    rw [zEof_put (j := j) (x := x) hK (by rw [zcell, if_pos h4]; exact congrArg (fun l => Sum.inr (zci ci, l)) (zfl_put (by omega) hn))]
    exact k (zinv_put hi hK hx) hs.2.2 hl ls hls
  · have hK := zok_k hs.2.1 (zob_lt h4)
    obtain ⟨g1, g2⟩ := h10 hn
    have g3 : narrow (ty j) (.int x) = .int x ∧ fits (ty j) (.int x) = true := znarrow (by
      rcases g2 with ⟨g4, g5⟩ | ⟨g4, g5⟩
      · rcases hx with hx | hx
        · rw [g4] at hx; cases hx
        · exact Or.inl ⟨g5, hx⟩
      · exact Or.inr g5)
    refine zW_putN (ci := zci ci) (host := "GateRow") (fs := zfl ci a (K.2 a) (I a)) X.1 X.2.1 X.2.2.2.2.1 h1 ty h7 h8 X.2.2.2.1 X.2.2.2.2.2.2.1.1 (by rw [zEof_at hK, zcell, if_pos h4]) h2 j h3 (va_Nw.use rfl (X.2.2.2.2.2.2.1.2.2.1 _ h9 rfl)) h6 g1 (h7 j h3) g3.1 g3.2 (by rw [zfl_len]; omega) hd ?_
    rw [zEof_put (j := j) (x := x) hK (by rw [zcell, if_pos h4]; exact congrArg (fun l => Sum.inr (zci ci, l)) (zfl_put (by omega) hn))]
    exact k (zinv_put hi hK hx) hs.2.2 hl ls hls
/-! arrays -/
/-- an array of ints -/
def zai : Nat → Bool
  | 10 => true | 18 => true | 19 => true | _ => false
theorem zai_cell {k a : Nat} {r : Nat → Option Nat} {f : Nat → Int32} (h : zai k = true) : k < 24 ∧ zfb k = (fun _ => false) ∧ zcell tA k a r f = .inl (tA 10, zan k, .inl f) := by
  have : k = 10 ∨ k = 18 ∨ k = 19 := by
    unfold zai at h
    split at h <;> first | omega | cases h
  rcases this with rfl | rfl | rfl <;> exact ⟨by decide, by funext j; rfl, rfl⟩
theorem zr_iald (X : zX p l e R s m args below meth c own cc nL ret D b0 tA sa sv) {k a : Nat} {i : Int32} (hk : zai k = true) (hin : vp_in i (zan k)) (hd : decode cc pc = .ok (.iaload, 1))
    (kk : zG p l e R s m args below meth c nL D b0 tA sa cells slots Q K (pc + 1) lv (vi (I a i.toNatClampNeg) :: st) I) : zG p l e R s m args below meth c nL D b0 tA sa cells slots Q K pc lv (vi i :: vr a k :: st) I := by
  intro hi hs hl ls hls
  obtain ⟨h1, -, h2⟩ := zai_cell (tA := tA) (a := a) (r := K.2 a) (f := I a) hk
  exact zW_iald X.1 X.2.1 X.2.2.2.2.2.2.1.2.1.2.1 (by rw [zEof_at (zok_k hs.2.1 h1), h2]) hin hd (kk hi ⟨trivial, hs.2.2⟩ hl ls hls)
theorem zr_ialdN (X : zX p l e R s m args below meth c own cc nL ret D b0 tA sa sv) {k a n : Nat} (hk : zai k = true) (hin : n < zan k) (hd : decode cc pc = .ok (.iaload, 1))
    (kk : zG p l e R s m args below meth c nL D b0 tA sa cells slots Q K (pc + 1) lv (vi (I a n) :: st) I) : zG p l e R s m args below meth c nL D b0 tA sa cells slots Q K pc lv (vi (nI n) :: vr a k :: st) I := by
  have hz : zan k < 2 ^ 31 := by
    unfold zan
    split <;> decide
  refine zr_iald X hk (vp_in_nI hin hz) hd ?_
  rw [nI_clamp (Nat.lt_trans hin hz)]
  exact kk
theorem zr_iast (X : zX p l e R s m args below meth c own cc nL ret D b0 tA sa sv) {k a : Nat} {i x : Int32} (hk : zai k = true) (hin : vp_in i (zan k)) (hd : decode cc pc = .ok (.iastore, 1))
    (kk : zG p l e R s m args below meth c nL D b0 tA sa cells slots Q K (pc + 1) lv st (zput I a i.toNatClampNeg x)) : zG p l e R s m args below meth c nL D b0 tA sa cells slots Q K pc lv (vi x :: vi i :: vr a k :: st) I := by
  intro hi hs hl ls hls
  obtain ⟨h1, h3, h2⟩ := zai_cell (tA := tA) (a := a) (r := K.2 a) (f := I a) hk
  have hK := zok_k hs.2.2.1 h1
  refine zW_iast X.1 X.2.1 X.2.2.2.2.2.2.1.2.1.2.1 (by rw [zEof_at hK, h2]) hin hd ?_
  rw [zEof_put (j := i.toNatClampNeg) (x := x) hK (by rw [(zai_cell (tA := tA) (a := a) (r := K.2 a) hk).2.2]; rfl)]
  exact kk (zinv_put hi hK (Or.inl (by rw [h3]))) hs.2.2.2 hl ls hls
theorem zr_iastN (X : zX p l e R s m args below meth c own cc nL ret D b0 tA sa sv) {k a n : Nat} {x : Int32} (hk : zai k = true) (hin : n < zan k) (hd : decode cc pc = .ok (.iastore, 1))
    (kk : zG p l e R s m args below meth c nL D b0 tA sa cells slots Q K (pc + 1) lv st (zput I a n x)) : zG p l e R s m args below meth c nL D b0 tA sa cells slots Q K pc lv (vi x :: vi (nI n) :: vr a k :: st) I := by
  have hz : zan k < 2 ^ 31 := by
    unfold zan
    split <;> decide
  refine zr_iast X hk (vp_in_nI hin hz) hd ?_
  rw [nI_clamp (Nat.lt_trans hin hz)]
  exact kk
theorem zr_bald (X : zX p l e R s m args below meth c own cc nL ret D b0 tA sa sv) {a : Nat} {i : Int32} (hin : vp_in i 500) (hd : decode cc pc = .ok (.baload, 1))
    (kk : zG p l e R s m args below meth c nL D b0 tA sa cells slots Q K (pc + 1) lv (vi (I a i.toNatClampNeg) :: st) I) : zG p l e R s m args below meth c nL D b0 tA sa cells slots Q K pc lv (vi i :: vr a 9 :: st) I := by
  intro hi hs hl ls hls
  exact zW_bald X.1 X.2.1 X.2.2.2.2.2.2.1.2.1.1 (n := 500) (f := I a) (by rw [zEof_at (zok_k hs.2.1 (by decide))]; rfl) hin hd (kk hi ⟨trivial, hs.2.2⟩ hl ls hls)
theorem zr_bast (X : zX p l e R s m args below meth c own cc nL ret D b0 tA sa sv) {a : Nat} {i x : Int32} (hin : vp_in i 500) (hx : x.toInt8.toInt32 = x) (hd : decode cc pc = .ok (.bastore, 1))
    (kk : zG p l e R s m args below meth c nL D b0 tA sa cells slots Q K (pc + 1) lv st (zput I a i.toNatClampNeg x)) : zG p l e R s m args below meth c nL D b0 tA sa cells slots Q K pc lv (vi x :: vi i :: vr a 9 :: st) I := by
  intro hi hs hl ls hls
  have hK := zok_k (k := 9) hs.2.2.1 (by decide)
  refine zW_bast X.1 X.2.1 X.2.2.2.2.2.2.1.2.1.1 (n := 500) (f := I a) (by rw [zEof_at hK]; rfl) hin hd ?_
  rw [vp_nar_byte, hx, zEof_put (tA := tA) (I := I) (a := a) (j := i.toNatClampNeg) (x := x) (e := .inl (tA 9, 500, .inl (upd (I a) i.toNatClampNeg x))) hK rfl]
  exact kk (zinv_put hi hK (Or.inl rfl)) hs.2.2.2 hl ls hls
theorem zaq_cell {k a : Nat} {r : Nat → Option Nat} {f : Nat → Int32} (h : zaq k = true) : k < 24 ∧ zcell tA k a r f = .inl (tA k, zan k, .inr (.inr (.inr (.inr (fun j => some (a + (zak k).1 + (zak k).2.1 * j)))))) := by
  have : k = 11 ∨ k = 12 ∨ k = 13 := by
    unfold zaq at h
    split at h <;> first | omega | cases h
  rcases this with rfl | rfl | rfl <;> exact ⟨by decide, rfl⟩
theorem zaq_arr (hK : zK D b0 tA sa sv l s) {k : Nat} (h : zaq k = true) : ∃ ty : FieldType, ty.isReference = true ∧ ArrOfT s (tA k) ty := by
  obtain ⟨-, ⟨-, -, -, a4, a5, a6, -⟩, -⟩ := hK
  have : k = 11 ∨ k = 12 ∨ k = 13 := by
    unfold zaq at h
    split at h <;> first | omega | cases h
  rcases this with rfl | rfl | rfl
  · exact ⟨_, rfl, a4⟩
  · exact ⟨_, rfl, a5⟩
  · exact ⟨_, rfl, a6⟩
theorem zr_aald (X : zX p l e R s m args below meth c own cc nL ret D b0 tA sa sv) {k a o d q : Nat} {i : Int32} (hk : zaq k = true) (hq : zak k = (o, d, q)) (hq9 : q < 24) (hin : vp_in i (zan k)) (hd : decode cc pc = .ok (.aaload, 1))
    (kk : zG p l e R s m args below meth c nL D b0 tA sa cells slots Q K (pc + 1) lv (vr (a + o + d * i.toNatClampNeg) q :: st) I) : zG p l e R s m args below meth c nL D b0 tA sa cells slots Q K pc lv (vi i :: vr a k :: st) I := by
  intro hi hs hl ls hls
  obtain ⟨h1, h2⟩ := zaq_cell (tA := tA) (a := a) (r := K.2 a) (f := I a) hk
  obtain ⟨ty, h3, h4⟩ := zaq_arr X.2.2.2.2.2.2.1 hk
  have hK := zok_k hs.2.1 h1
  have hlt : i.toNatClampNeg < zan k := Nat.not_le.mp fun q => hin (Or.inr q)
  have h5 := (hi a k hK).2.2.1 hk _ hlt
  rw [hq] at h2 h5
  exact zW_aald (f := fun j => some (a + o + d * j)) X.1 X.2.1 h4 h3 (by rw [zEof_at hK, h2]) hin hd (kk hi ⟨zok_of h5 hq9, hs.2.2⟩ hl ls hls)
theorem zr_aaldN (X : zX p l e R s m args below meth c own cc nL ret D b0 tA sa sv) {k a o d q n : Nat} (hk : zaq k = true) (hq : zak k = (o, d, q)) (hq9 : q < 24) (hin : n < zan k) (hd : decode cc pc = .ok (.aaload, 1))
    (kk : zG p l e R s m args below meth c nL D b0 tA sa cells slots Q K (pc + 1) lv (vr (a + o + d * n) q :: st) I) : zG p l e R s m args below meth c nL D b0 tA sa cells slots Q K pc lv (vi (nI n) :: vr a k :: st) I := by
  have hz : zan k < 2 ^ 31 := by
    unfold zan
    split <;> decide
  refine zr_aald X hk hq hq9 (vp_in_nI hin hz) hd ?_
  rw [nI_clamp (Nat.lt_trans hin hz)]
  exact kk
theorem zr_alen (X : zX p l e R s m args below meth c own cc nL ret D b0 tA sa sv) {k a : Nat} {v : Int32} (hk : zai k = true ∨ zaq k = true ∨ k = 9) (hv : Int32.ofNat (zan k) = v) (hd : decode cc pc = .ok (.arraylength, 1))
    (kk : zG p l e R s m args below meth c nL D b0 tA sa cells slots Q K (pc + 1) lv (vi v :: st) I) : zG p l e R s m args below meth c nL D b0 tA sa cells slots Q K pc lv (vr a k :: st) I := by
  intro hi hs hl ls hls
  subst hv
  rcases hk with hk | hk | rfl
  · obtain ⟨h1, -, h2⟩ := zai_cell (tA := tA) (a := a) (r := K.2 a) (f := I a) hk
    exact zW_alen X.1 X.2.1 X.2.2.2.2.2.2.1.2.1.2.1 (x := (zan k, .inl (I a))) (by rw [zEof_at (zok_k hs.1 h1), h2]) hd (kk hi ⟨trivial, hs.2⟩ hl ls hls)
  · obtain ⟨h1, h2⟩ := zaq_cell (tA := tA) (a := a) (r := K.2 a) (f := I a) hk
    obtain ⟨ty, h3, h4⟩ := zaq_arr X.2.2.2.2.2.2.1 hk
    exact zW_alen X.1 X.2.1 h4 (x := (zan k, _)) (by rw [zEof_at (zok_k hs.1 h1), h2]) hd (kk hi ⟨trivial, hs.2⟩ hl ls hls)
  · exact zW_alen X.1 X.2.1 X.2.2.2.2.2.2.1.2.1.1 (x := (500, .inl (I a))) (by rw [zEof_at (zok_k hs.1 (by decide))]; rfl) hd (kk hi ⟨trivial, hs.2⟩ hl ls hls)
/-! the ends -/
variable {rm : Room} {Qp : zI → Option AV → Prop} {Xp : String → zI → Prop}
theorem zr_iret (X : zX p l e R s m args below meth c own cc nL (some .int) D b0 tA sa sv) {x : Int32} (hc : cells ≤ rm.cells) (hs9 : slots ≤ rm.slots) (hd : decode cc pc = .ok (.ireturn, 1)) (h : Qp I (some (vi x))) :
    zG p l e R s m args below meth c nL D b0 tA sa cells slots (zQ below D b0 tA sa K args s rm Qp Xp) K pc lv [vi x] I := by
  intro hi hs hl ls hls H locs hP hS
  exact W.widen hc hs9 (vx_ret (W.iret X.1 X.2.1 X.2.2.2.2.2.2.2 (fun t ht hW => ⟨⟨I, some (vi x), rfl, h, fun v hv => by cases hv; trivial, hi, by rw [ht]; exact hP⟩, hS.F ht⟩) hS.2.2 hd X.2.2.2.2.2.1))
theorem zr_zret (X : zX p l e R s m args below meth c own cc nL (some .boolean) D b0 tA sa sv) {x : Int32} (hx : x = 0 ∨ x = 1) (hc : cells ≤ rm.cells) (hs9 : slots ≤ rm.slots) (hd : decode cc pc = .ok (.ireturn, 1)) (h : Qp I (some (vi x))) :
    zG p l e R s m args below meth c nL D b0 tA sa cells slots (zQ below D b0 tA sa K args s rm Qp Xp) K pc lv [vi x] I := by
  intro hi hs hl ls hls H locs hP hS
  exact W.widen hc hs9 (vx_ret (W.zret X.1 X.2.1 X.2.2.2.2.2.2.2 (by rcases hx with rfl | rfl <;> decide) (fun t ht hW => ⟨⟨I, some (vi x), rfl, h, fun v hv => by cases hv; trivial, hi, by rw [ht]; exact hP⟩, hS.F ht⟩) hS.2.2 hd X.2.2.2.2.2.1))
theorem zr_lret (X : zX p l e R s m args below meth c own cc nL (some .long) D b0 tA sa sv) {x : Int64} (hc : cells ≤ rm.cells) (hs9 : slots ≤ rm.slots) (hd : decode cc pc = .ok (.lreturn, 1)) (h : Qp I (some (vl x))) :
    zG p l e R s m args below meth c nL D b0 tA sa cells slots (zQ below D b0 tA sa K args s rm Qp Xp) K pc lv [vl x] I := by
  intro hi hs hl ls hls H locs hP hS
  exact W.widen hc hs9 (vx_ret (W.lret X.1 X.2.1 X.2.2.2.2.2.2.2 (fun t ht hW => ⟨⟨I, some (vl x), rfl, h, fun v hv => by cases hv; trivial, hi, by rw [ht]; exact hP⟩, hS.F ht⟩) hS.2.2 hd X.2.2.2.2.2.1))
theorem zr_vret (X : zX p l e R s m args below meth c own cc nL none D b0 tA sa sv) (hc : cells ≤ rm.cells) (hs9 : slots ≤ rm.slots) (hd : decode cc pc = .ok (.return_, 1)) (h : Qp I none) :
    zG p l e R s m args below meth c nL D b0 tA sa cells slots (zQ below D b0 tA sa K args s rm Qp Xp) K pc lv [] I := by
  intro hi hs hl ls hls H locs hP hS
  exact W.widen hc hs9 (vx_ret (W.vret X.1 X.2.1 X.2.2.2.2.2.2.2 (fun t ht hW => ⟨⟨I, none, rfl, h, fun v hv => (by cases hv), hi, by rw [ht]; exact hP⟩, hS.F ht⟩) hS.2.2 hd X.2.2.2.2.2.1))
theorem zr_aret {C : String} (X : zX p l e R s m args below meth c own cc nL (some (.object C)) D b0 tA sa sv) {a k : Nat} (hc : cells ≤ rm.cells) (hs9 : slots ≤ rm.slots) (hd : decode cc pc = .ok (.areturn, 1)) (h : Qp I (some (vr a k))) :
    zG p l e R s m args below meth c nL D b0 tA sa cells slots (zQ below D b0 tA sa K args s rm Qp Xp) K pc lv [vr a k] I := by
  intro hi hs hl ls hls H locs hP hS
  exact W.widen hc hs9 (vx_ret (W.aret (v := .ref a) (rt := .object C) X.1 X.2.1 X.2.2.2.2.2.2.2 (Or.inl ⟨C, rfl⟩) (Or.inr ⟨a, rfl⟩) (fun t ht hW => ⟨⟨I, some (vr a k), rfl, h, fun v hv => by cases hv; exact hs.1, hi, by rw [ht]; exact hP⟩, hS.F ht⟩) hS.2.2 hd X.2.2.2.2.2.1))
/-! calls -/
def zpush : Option AV → List AV → List AV
  | none, st => st
  | some v, st => v :: st
theorem zpush_map {r : Option AV} {st : List AV} : (r.map zv).toList ++ st.map zv = (zpush r st).map zv := by cases r <;> rfl
theorem zpush_ok {r : Option AV} {st : List AV} (h : ∀ v, r = some v → zok sa K v) (hs : zoks sa K st) : zoks sa K (zpush r st) := by
  cases r with
  | none => exact hs
  | some v => exact ⟨h v rfl, hs⟩
/-- the tables' facts of a method that an entry of the pool names: called on an object of class ci -/
def zMv (own : String) (index ci : Nat) (y : MethodName) (bytes : ByteArray) (maxL : Nat) (r9 : Option FieldType) (n : Nat) : Prop := ∃ (C : String) (T : u_T) (N : Nat), vwCl[zci ci]? = some (C, T, N) ∧ zob ci = true ∧ (y.cls = C ∧ y.cls ≠ "java/lang/invoke/MethodHandle" ∧ y.cls ≠ "java/lang/invoke/VarHandle" ∧ (parseMethodDescriptor y.desc).map (fun d => d.parameters.length) = some n) ∧ Cond.methodLink own index y ∈ zALL ∧ Cond.instanceMethod y ∈ zALL ∧ Cond.selects C y y ∈ zALL ∧ Cond.initialized C ∈ zALL ∧ Cond.code y bytes maxL r9 ∈ zALL
def zMs (own : String) (index : Nat) (y : MethodName) (bytes : ByteArray) (maxL : Nat) (r9 : Option FieldType) (n : Nat) : Prop := (y.cls = own ∧ y.cls ≠ "java/lang/invoke/MethodHandle" ∧ y.cls ≠ "java/lang/invoke/VarHandle" ∧ (parseMethodDescriptor y.desc).map (fun d => d.parameters.length) = some n) ∧ Cond.methodLink own index y ∈ zALL ∧ Cond.static y ∈ zALL ∧ Cond.initialized own ∈ zALL ∧ Cond.code y bytes maxL r9 ∈ zALL
theorem zgoodV {own C : String} {index : Nat} {y : MethodName} {ws : List Cond} (h1 : Cond.methodLink own index y ∈ zALL) (h2 : Cond.instanceMethod y ∈ zALL) (h3 : Cond.selects C y y ∈ zALL) (h4 : Cond.initialized C ∈ zALL) (hG : GoodIn zALL ws) : GoodIn zALL (wsV own index C y ws) := by
  intro w hw
  unfold wsV at hw
  rcases List.mem_append.mp hw with hw | hw
  · simp only [List.mem_cons, List.not_mem_nil, or_false] at hw
    rcases hw with rfl | rfl | rfl | rfl
    · exact ⟨h1, good_of_word (List.mem_filter.mp h1).2⟩
    · exact ⟨h2, good_of_word (List.mem_filter.mp h2).2⟩
    · exact ⟨h3, good_of_word (List.mem_filter.mp h3).2⟩
    · exact ⟨h4, good_of_word (List.mem_filter.mp h4).2⟩
  · exact hG w hw
theorem zgoodS {own : String} {index : Nat} {y : MethodName} {ws : List Cond} (h1 : Cond.methodLink own index y ∈ zALL) (h2 : Cond.static y ∈ zALL) (h4 : Cond.initialized own ∈ zALL) (hG : GoodIn zALL ws) : GoodIn zALL (wsS own index y ws) := by
  intro w hw
  unfold wsS at hw
  rcases List.mem_append.mp hw with hw | hw
  · simp only [List.mem_cons, List.not_mem_nil, or_false] at hw
    rcases hw with rfl | rfl | rfl
    · exact ⟨h1, good_of_word (List.mem_filter.mp h1).2⟩
    · exact ⟨h2, good_of_word (List.mem_filter.mp h2).2⟩
    · exact ⟨h4, good_of_word (List.mem_filter.mp h4).2⟩
  · exact hG w hw
theorem zblind {av : List AV} : FrameBlind (zPc D b0 tA sa sv l K I av) := by
  intro a U g mk q
  obtain ⟨q1, q2, q3, q4, q5⟩ := q
  refine ⟨q1, q2, q3, q4, ?_⟩
  exact zK.moved (u := U) (U := U.calling g mk a) (locs := []) q5 (Vm.Alike.refl U.vm) (State.WarmedH.refl U) ⟨Nat.le_refl _, fun _ _ _ => rfl, fun _ h => by cases h⟩
/-- what comes back from a callee that returned, or threw with no table here -/
theorem zr_back (X : zX p l e R s m args below meth c own cc nL ret D b0 tA sa sv) {mc ms : Nat} {ls : Array Slot} {st0 : List Value} {a : Array Value} {Qp' : zI → Option AV → Prop} {locs : List Loc} {H : Heap} (hnt : ∀ x ∈ c.exceptionTable.toList, False)
    (hr : vx_Run p l e R s m args below meth c H locs cells slots mc ms (F0 m pc ls st0) (st.map zv) (zQc D b0 tA sa K Qp' a) (zXc D b0 tA K Xp) (fun q => b0 ≤ q)) (hS : va_S (fun q => b0 ≤ q) s.heap H locs)
    (hc : cells + mc ≤ rm.cells) (hs9 : slots + ms ≤ rm.slots) (hl : zokl sa K lv) (hls : zlv ls nL lv) (hs : zoks sa K st)
    (kk : ∀ (I' : zI) (r : Option AV), Qp' I' r → zG p l e R s m args below meth c nL D b0 tA sa (cells + mc) (slots + ms) (zQ below D b0 tA sa K args s rm Qp Xp) K (pc + 3) lv (zpush r st) I') :
    W p l e R s m args below meth c H locs cells slots (zQ below D b0 tA sa K args s rm Qp Xp) (F0 m pc ls st0) := by
  intro T hT XS
  rcases hr T hT XS with ⟨v, st₀, t, T', L, h0, X', hL, e1, e2, ⟨⟨I', r, hv, hq, hok, hinv', hP'⟩, hF⟩, st9⟩ | ⟨q, st₀, t, T', L, E, ce, h0, X', hL, e1, e2, ⟨⟨I', hx, hinv', hP'⟩, hF⟩, hce, hcv, hcl, st9⟩
  · obtain ⟨k1, k2, k3⟩ := vx_keep h0 e1 hS (fun _ _ h => h) (fun _ h => h) hL hF
    have hv9 : v = r.map zv := Outcome.returned.inj hv
    subst hv9
    obtain ⟨t2, a1, b1⟩ := kk I' r hq hinv' (zpush_ok hok hs) hl ls hls T'.heap (locs ++ L) (by rw [e1]; exact hP') k3 T' rfl X'
    refine ⟨t2, st9 t2 ?_, b1⟩
    have e9 := zpush_map (r := r) (st := st)
    rw [e9]
    exact a1
  · obtain ⟨k1, k2, k3⟩ := vx_keep h0 e1 hS (fun _ _ h => h) (fun _ h => h) hL hF
    obtain ⟨t2, a1, b1⟩ := vx_out (H := T'.heap) (pc := pc) (ls := ls) (rest := st.map zv) (Qc := zQc D b0 tA sa K Qp) (XC := zXc D b0 tA K Xp) (args := args) (mc := rm.cells) (ms := rm.slots) (free := fun q => b0 ≤ q) (fun x hx => (hnt x hx).elim) X.2.2.2.2.2.1 (by rw [e1]; exact hce) hcv hcl (fun t9 ht9 _ => ⟨⟨I', hx, hinv', by rw [ht9, e1]; exact hP'⟩, k3.F ht9⟩) k3.2.2 hc hs9 T' rfl X'
    exact ⟨t2, st9.trans a1, b1⟩
theorem zpre (X : zX p l e R s m args below meth c own cc nL ret D b0 tA sa sv) {av : List AV} {H : Heap} {locs : List Loc} (hi : zinv K I) (ha : zoks sa K av) (hP : zhp D b0 (zEof tA K I) H) (hS : va_S (fun q => b0 ≤ q) s.heap H locs) : ∀ U : State, U.heap = H → s.WarmedH U.vm → zPc D b0 tA sa sv l K I av (av.map zv).toArray U := by
  intro U hU hW
  exact ⟨rfl, hi, ha, by rw [hU]; exact hP, zK.moved X.2.2.2.2.2.2.1 hW.alike hW (by rw [hU]; exact hS)⟩
theorem zr_callV (X : zX p l e R s m args below meth c own cc nL ret D b0 tA sa sv) (hnt : ∀ x ∈ c.exceptionTable.toList, False) {index ci maxL n a : Nat} {y : MethodName} {bytes : ByteArray} {r9 : Option FieldType} {rm9 : Room} {As : List AV} {st9 : List AV} (F : zMv own index ci y bytes maxL r9 n)
    (hst : st9 = As.reverse ++ vr a ci :: st) (hn : As.length = n) (hR : rm9.frames + 1 ≤ R.frames ∧ 8 + (maxL + 11) + rm9.locals ≤ R.locals) (hf : cells + rm9.cells ≤ R.cells ∧ slots + rm9.slots ≤ R.slots) (hf2 : cells + rm9.cells ≤ rm.cells ∧ slots + rm9.slots ≤ rm.slots) (hw : ((st.map zv).map fun v => v.category).sum ≤ 8) (hd : decode cc pc = .ok (.invokevirtual index, 3))
    (hM : zC l D b0 tA sa sv K y (.code y bytes maxL r9) rm9 (vr a ci :: As) I (fun I' r => zG p l e R s m args below meth c nL D b0 tA sa (cells + rm9.cells) (slots + rm9.slots) (zQ below D b0 tA sa K args s rm Qp Xp) K (pc + 3) lv (zpush r st) I') Xp) :
    zG p l e R s m args below meth c nL D b0 tA sa cells slots (zQ below D b0 tA sa K args s rm Qp Xp) K pc lv st9 I := by
  subst hst
  intro hi hs hl ls hls H locs hP hS
  obtain ⟨C, T, N, f1, f2, f3, f4, f5, f6, f7, f8⟩ := F
  have hs2 := zoks_app hs
  have hK := zok_k hs2.2.1 (zob_lt f2)
  have hav : zoks sa K (vr a ci :: As) := ⟨hs2.2.1, zoks_of (fun v hv => zoks_rev hs2.1 v (List.mem_reverse.mpr hv))⟩
  have hcell := (hP a _ (zEof_at hK)).1
  rw [show zcell tA ci a (K.2 a) (I a) = .inr (zci ci, zfl ci a (K.2 a) (I a)) by rw [zcell, if_pos f2]] at hcell
  have hrecv := va_recv (a := a) (q0 := 0) (ws := [(a, .inr (zci ci, zfl ci a (K.2 a) (I a)))]) (H := H) X.2.2.2.2.2.2.1.1 (fun k q h => by
    cases k with
    | zero => cases h; exact hcell
    | succ k => cases h) f1 rfl
  have hnL : ls.size = nL := by obtain ⟨l9, h9, -⟩ := hls; exact h9.1
  refine zr_back X (st := st) (lv := lv) hnt (vx_runV (As := As.map zv) (b := a) (C := C) (Ts := zALL) (cc := cc) (nL := nL) (own := own) ⟨X.1, X.2.1, X.2.2.1, X.2.2.2.1, X.2.2.2.2.1⟩ hM (cwV n X.2.2.2.2.1 (zgoodV f4 f5 f6 f7 (zgood f8)) rfl rfl rfl f3 hR) ⟨zblind, hrecv, fun U hU hW => zpre X hi hav hP hS U hU hW⟩ rfl (by rw [List.length_map]; exact hn) hnL ?_ (lv_room hw) hd hf) hS hf2.1 hf2.2 hl hls hs2.2.2 (fun I' r h => h)
  show ((As.reverse ++ vr a ci :: st).map zv) = (As.map zv).reverse ++ .ref a :: st.map zv
  rw [List.map_append, List.map_reverse]
  rfl
theorem zr_callS (X : zX p l e R s m args below meth c own cc nL ret D b0 tA sa sv) (hnt : ∀ x ∈ c.exceptionTable.toList, False) {index maxL n : Nat} {y : MethodName} {bytes : ByteArray} {r9 : Option FieldType} {rm9 : Room} {As : List AV} {st9 : List AV} (F : zMs own index y bytes maxL r9 n)
    (hst : st9 = As.reverse ++ st) (hn : As.length = n) (hR : rm9.frames + 1 ≤ R.frames ∧ 8 + (maxL + 11) + rm9.locals ≤ R.locals) (hf : cells + rm9.cells ≤ R.cells ∧ slots + rm9.slots ≤ R.slots) (hf2 : cells + rm9.cells ≤ rm.cells ∧ slots + rm9.slots ≤ rm.slots) (hw : ((st.map zv).map fun v => v.category).sum ≤ 8) (hd : decode cc pc = .ok (.invokestatic index, 3))
    (hM : zC l D b0 tA sa sv K y (.code y bytes maxL r9) rm9 As I (fun I' r => zG p l e R s m args below meth c nL D b0 tA sa (cells + rm9.cells) (slots + rm9.slots) (zQ below D b0 tA sa K args s rm Qp Xp) K (pc + 3) lv (zpush r st) I') Xp) :
    zG p l e R s m args below meth c nL D b0 tA sa cells slots (zQ below D b0 tA sa K args s rm Qp Xp) K pc lv st9 I := by
  subst hst
  intro hi hs hl ls hls H locs hP hS
  obtain ⟨f3, f4, f5, f7, f8⟩ := F
  have hs2 := zoks_app hs
  have hav : zoks sa K As := zoks_of (fun v hv => zoks_rev hs2.1 v (List.mem_reverse.mpr hv))
  have hnL : ls.size = nL := by obtain ⟨l9, h9, -⟩ := hls; exact h9.1
  refine zr_back X (st := st) (lv := lv) hnt (vx_runS (As := As.map zv) (Ts := zALL) (cc := cc) (nL := nL) (own := own) ⟨X.1, X.2.1, X.2.2.1, X.2.2.2.1, X.2.2.2.2.1⟩ hM (cwS n X.2.2.2.2.1 (zgoodS f4 f5 f7 (zgood f8)) rfl rfl rfl f3 hR) ⟨zblind, fun U hU hW => zpre X hi hav hP hS U hU hW⟩ rfl (by rw [List.length_map]; exact hn) hnL ?_ (lv_room hw) hd hf) hS hf2.1 hf2.2 hl hls hs2.2 (fun I' r h => h)
  show ((As.reverse ++ st).map zv) = (As.map zv).reverse ++ st.map zv
  rw [List.map_append, List.map_reverse]
/-! the entry -/
def zargs : List AV → Nat → List (Option AV)
  | [], n => List.replicate n none
  | v :: r, n => if z1 (some v) = true then some v :: zargs r (n - 1) else some v :: none :: zargs r (n - 2)
theorem zcat2 {v : AV} (h : ¬ z1 (some v) = true) : (zv v).category = 2 := by
  obtain x | q | x | x | x := v <;> first | rfl | (exact absurd rfl h)
theorem zargs_in : ∀ (av : List AV) (n i j : Nat) (v : AV), (zargs av n)[j]? = some (some v) → (i + j, zv v) ∈ lv_args i (av.map zv)
  | [], n, i, j, v, h => by
    have := List.eq_of_mem_replicate (List.mem_of_getElem? h)
    cases this
  | a :: r, n, i, j, v, h => by
    rw [zargs] at h
    by_cases h1 : z1 (some a) = true
    · rw [if_pos h1] at h
      cases j with
      | zero => cases h; exact List.mem_cons_self
      | succ j =>
        have h2 := zargs_in r (n - 1) (i + 1) j v h
        rw [List.map_cons, lv_args, zcat1 h1]
        refine List.mem_cons_of_mem _ ?_
        rw [if_neg (by decide), show i + (j + 1) = i + 1 + j by omega]
        exact h2
    · rw [if_neg h1] at h
      cases j with
      | zero => cases h; exact List.mem_cons_self
      | succ j =>
        cases j with
        | zero => cases h
        | succ j =>
          have h2 := zargs_in r (n - 2) (i + 2) j v h
          rw [List.map_cons, lv_args, zcat2 h1]
          refine List.mem_cons_of_mem _ ?_
          rw [if_pos rfl, show i + (j + 1 + 1) = i + 2 + j by omega]
          exact h2
theorem zargs_ok : ∀ (av : List AV) (n : Nat), zoks sa K av → zokl sa K (zargs av n)
  | [], n, _ => fun j v h => by
    have := List.eq_of_mem_replicate (List.mem_of_getElem? h)
    cases this
  | a :: r, n, ha => fun j v h => by
    rw [zargs] at h
    by_cases h1 : z1 (some a) = true
    · rw [if_pos h1] at h
      cases j with
      | zero => cases h; exact ha.1
      | succ j => exact zargs_ok r (n - 1) ha.2 j v h
    · rw [if_neg h1] at h
      cases j with
      | zero => cases h; exact ha.1
      | succ j =>
        cases j with
        | zero => cases h
        | succ j => exact zargs_ok r (n - 2) ha.2 j v h
/-- a contract out of a walk of the body -/
theorem zC_of {y : MethodName} {r9 : Option FieldType} {av : List AV} (hy : plainName y.cls = true) (hlen : (lg_sl (av.map zv)).length ≤ nL)
    (body : ∀ (p : Program) (e : Env) (s : State) (m : MethodId) (args : Array Value) (below : List Frame) (meth : Method) (c : Code), zX p l e rm s m args below meth c y.cls cc nL r9 D b0 tA sa sv → (∀ x ∈ c.exceptionTable.toList, False) → zG p l e rm s m args below meth c nL D b0 tA sa 0 0 (zQ below D b0 tA sa K args s rm Qp Xp) K 0 (zargs av nL) [] I) :
    zC l D b0 tA sa sv K y (.code y cc nL r9) rm av I Qp Xp := by
  refine vx_ofW (cc := cc) (maxL := nL) (ret := r9) hy rfl ?_
  intro p e s m args below meth c s₁ B hml hnt hv
  obtain ⟨hargs, hinv, hav, hP, hK⟩ := hv
  have hts : ∀ w ∈ Cond.code y cc nL r9 :: zALL, w.before args s = true := atoms_spec B.pre
  have X : zX p l e rm s m args below meth c y.cls cc nL r9 D b0 tA sa sv := ⟨B.exec, B.bytes, hml, findClass_of_methodNamed B.named, fun w h => hts w (List.mem_cons_of_mem _ h), B.notSynchronized, hK, B.returns⟩
  have hl := lv_entry (av.map zv) (n := nL) hlen
  subst hargs
  rw [lg_entry_eq]
  exact body p e s m _ below meth c X hnt hinv trivial (zargs_ok av nL hav) _ ⟨_, hl, fun j v h => by have := zargs_in av nL 0 j v h; rwa [Nat.zero_add] at this⟩ s.heap [] hP va_S.rf

end ZR
