/-! ===== the law's entry: what the start gives ===== -/
theorem zins_X8 : Cond.instantiable RX8 4 ∈ zALL := zin (List.mem_append_right _ (List.mem_of_getElem? (i := 480) (by decide +kernel))) rfl
theorem zins_X9 : Cond.instantiable RX9 9 ∈ zALL := zin (List.mem_append_right _ (List.mem_of_getElem? (i := 409) (by decide +kernel))) rfl
theorem zins_X10 : Cond.instantiable RX10 2 ∈ zALL := zin (List.mem_append_right _ (List.mem_of_getElem? (i := 415) (by decide +kernel))) rfl
theorem zins_X11 : Cond.instantiable RX11 1 ∈ zALL := zin (List.mem_append_right _ (List.mem_of_getElem? (i := 326) (by decide +kernel))) rfl
theorem zins_X12 : Cond.instantiable RX12 15 ∈ zALL := zin (List.mem_append_right _ (List.mem_of_getElem? (i := 336) (by decide +kernel))) rfl
theorem zKn_at {s : State} {av : Array Value} (hts : ∀ w ∈ lw_tbl, w.before av s = true) : ∃ D : va_G, va_K D vwCl [] s := by
  have hz : ∀ w ∈ zALL, w.before av s = true := fun w h => hts w (List.mem_filter.mp h).1
  have g : ∀ k : Nat, ∃ q9 : ClassId × (Nat → Nat), ∀ q : vw_C, vwCl[k]? = some q → u_Kn s q.1 q.2.1 q.2.2 q9.1 q9.2 := by
    intro k
    match k with
    | 0 => obtain ⟨c, i, h⟩ := u_known (n := 5) hz zin_X0 (hz _ zins_X0); exact ⟨(c, i), fun q hq => by cases hq; exact h⟩
    | 1 => obtain ⟨c, i, h⟩ := u_known (n := 9) hz zin_X1 (hz _ zins_X1); exact ⟨(c, i), fun q hq => by cases hq; exact h⟩
    | 2 => obtain ⟨c, i, h⟩ := u_known (n := 3) hz zin_X2 (hz _ zins_X2); exact ⟨(c, i), fun q hq => by cases hq; exact h⟩
    | 3 => obtain ⟨c, i, h⟩ := u_known (n := 9) hz zin_X3 (hz _ zins_X3); exact ⟨(c, i), fun q hq => by cases hq; exact h⟩
    | 4 => obtain ⟨c, i, h⟩ := u_known (n := 2) hz zin_X4 (hz _ zins_X4); exact ⟨(c, i), fun q hq => by cases hq; exact h⟩
    | 5 => obtain ⟨c, i, h⟩ := u_known (n := 16) hz zin_X5 (hz _ zins_X5); exact ⟨(c, i), fun q hq => by cases hq; exact h⟩
    | 6 => obtain ⟨c, i, h⟩ := u_known (n := 2) hz zin_X6 (hz _ zins_X6); exact ⟨(c, i), fun q hq => by cases hq; exact h⟩
    | 7 => obtain ⟨c, i, h⟩ := u_known (n := 7) hz zin_X7 (hz _ zins_X7); exact ⟨(c, i), fun q hq => by cases hq; exact h⟩
    | 8 => obtain ⟨c, i, h⟩ := u_known (n := 4) hz zin_X8 (hz _ zins_X8); exact ⟨(c, i), fun q hq => by cases hq; exact h⟩
    | 9 => obtain ⟨c, i, h⟩ := u_known (n := 9) hz zin_X9 (hz _ zins_X9); exact ⟨(c, i), fun q hq => by cases hq; exact h⟩
    | 10 => obtain ⟨c, i, h⟩ := u_known (n := 2) hz zin_X10 (hz _ zins_X10); exact ⟨(c, i), fun q hq => by cases hq; exact h⟩
    | 11 => obtain ⟨c, i, h⟩ := u_known (n := 1) hz zin_X11 (hz _ zins_X11); exact ⟨(c, i), fun q hq => by cases hq; exact h⟩
    | 12 => obtain ⟨c, i, h⟩ := u_known (n := 15) hz zin_X12 (hz _ zins_X12); exact ⟨(c, i), fun q hq => by cases hq; exact h⟩
    | k + 13 => exact ⟨((0 : Nat), fun _ => 0), fun q hq => by simp [vwCl] at hq⟩
  obtain ⟨f, hf⟩ := Classical.axiomOfChoice g
  exact ⟨(fun k => (f k).1, fun k => (f k).2), fun k q hq => hf k q hq, fun k q h => by simp at h⟩
theorem zAO_of {ty : FieldType} {av : Array Value} {s : State} (h : (Cond.arrayOver ty).before av s = true) : zAO ty s := h
theorem zTa_at {s : State} {av : Array Value} (hts : ∀ w ∈ lw_tbl, w.before av s = true) : ∃ tA : Nat → ClassId, zTa tA s ∧ (ArrOfT s (tA 9) .byte ∧ ArrOfT s (tA 10) .int ∧ ArrOfT s (tA 22) .boolean ∧ ArrOfT s (tA 11) (.object RX0) ∧ ArrOfT s (tA 12) (.object RX1) ∧ ArrOfT s (tA 13) (.object RX5) ∧ ArrOfT s (tA 20) (.object RX9) ∧ ArrOfT s (tA 21) (.object RX8) ∧ ArrOfT s (tA 23) (.object RX12)) := by
  have o11 : (Cond.arrayOver (.object RX0)).before av s = true := hts _ (List.mem_append_right _ (List.mem_of_getElem? (i := 100) (by decide +kernel)))
  have o12 : (Cond.arrayOver (.object RX1)).before av s = true := hts _ (List.mem_append_right _ (List.mem_of_getElem? (i := 98) (by decide +kernel)))
  have o13 : (Cond.arrayOver (.object RX5)).before av s = true := hts _ (List.mem_append_right _ (List.mem_of_getElem? (i := 262) (by decide +kernel)))
  have o20 : (Cond.arrayOver (.object RX9)).before av s = true := hts _ (List.mem_append_right _ (List.mem_of_getElem? (i := 342) (by decide +kernel)))
  have o21 : (Cond.arrayOver (.object RX8)).before av s = true := hts _ (List.mem_append_right _ (List.mem_of_getElem? (i := 344) (by decide +kernel)))
  have o23 : (Cond.arrayOver (.object RX12)).before av s = true := hts _ (List.mem_append_right _ (List.mem_of_getElem? (i := 1365) (by decide +kernel)))
  obtain ⟨c9, k9, p9, x9, y9, z9⟩ := Cond.arrayClass_spec (hts (.arrayClass .byte) (List.mem_append_right _ (List.mem_of_getElem? (i := 75) (by decide +kernel))))
  obtain ⟨c10, k10, p10, x10, y10, z10⟩ := Cond.arrayClass_spec (hts (.arrayClass .int) (List.mem_append_right _ (List.mem_of_getElem? (i := 122) (by decide +kernel))))
  obtain ⟨c22, k22, p22, x22, y22, z22⟩ := Cond.arrayClass_spec (hts (.arrayClass .boolean) (List.mem_append_right _ (List.mem_of_getElem? (i := 397) (by decide +kernel))))
  obtain ⟨p11, c11, k11, -, -, y11, z11, x11⟩ := Cond.arrayOver_spec o11
  obtain ⟨p12, c12, k12, -, -, y12, z12, x12⟩ := Cond.arrayOver_spec o12
  obtain ⟨p13, c13, k13, -, -, y13, z13, x13⟩ := Cond.arrayOver_spec o13
  obtain ⟨p20, c20, k20, -, -, y20, z20, x20⟩ := Cond.arrayOver_spec o20
  obtain ⟨p21, c21, k21, -, -, y21, z21, x21⟩ := Cond.arrayOver_spec o21
  obtain ⟨p23, c23, k23, -, -, y23, z23, x23⟩ := Cond.arrayOver_spec o23
  exact ⟨fun k => if k = 9 then c9 else if k = 10 then c10 else if k = 22 then c22 else if k = 11 then c11 else if k = 12 then c12 else if k = 13 then c13 else if k = 20 then c20 else if k = 21 then c21 else c23,
    ⟨⟨x9, x10, x22, x11, x12, x13, x20, x21, x23⟩, ⟨zAO_of o11, zAO_of o12, zAO_of o13⟩, zAO_of o20, zAO_of o21, zAO_of o23⟩,
    fun N z => ⟨fun k h => (by cases h), k9, y9, p9, z9⟩, fun N z => ⟨fun k h => (by cases h), k10, y10, p10, z10⟩, fun N z => ⟨fun k h => (by cases h), k22, y22, p22, z22⟩, fun N z => ⟨fun k h => (by cases h), k11, y11, p11, z11⟩, fun N z => ⟨fun k h => (by cases h), k12, y12, p12, z12⟩, fun N z => ⟨fun k h => (by cases h), k13, y13, p13, z13⟩, fun N z => ⟨fun k h => (by cases h), k20, y20, p20, z20⟩, fun N z => ⟨fun k h => (by cases h), k21, y21, p21, z21⟩, fun N z => ⟨fun k h => (by cases h), k23, y23, p23, z23⟩⟩
theorem zof_nat (x : Int32) : Int32.ofNat x.toBitVec.toNat = x := by
  apply Int32.toBitVec_inj.mp
  apply BitVec.eq_of_toNat_eq
  show x.toBitVec.toNat % 2 ^ 32 = x.toBitVec.toNat
  have := x.toBitVec.isLt
  omega
theorem zFl_at {s : State} {b : Nat} (hgv : (Cond.and given_1 narrow_1).before #[Value.ref b] s = true) (i : Nat) (w : Cond) (h : zFl[i]? = some w) : w.before #[Value.ref b] s = true := flat_of_before _ hgv w (List.mem_of_getElem? h)
theorem zK_at {l : Launch} (hflags : l.flags = flags0) {s : State} {b L : Nat} {xs : Nat → Int32} (hL : L ≤ 260) (hts : ∀ w ∈ lw_tbl, w.before #[Value.ref b] s = true) (hX : va_X b L xs s s.heap) (hbl : b < s.heap.size) (hgv : (Cond.and given_1 narrow_1).before #[Value.ref b] s = true) :
    ∃ (D : va_G) (tA : Nat → ClassId) (sa sv : Nat → Nat), zK D s.heap.size tA sa sv l s ∧ sa 37 = b := by
  obtain ⟨D, hD⟩ := zKn_at hts
  obtain ⟨tA, hT, a1, a2, a3, a4, a5, a6, a7, a8, a9⟩ := zTa_at hts
  obtain ⟨s1, s2, hs1, hs2⟩ := zStrs hgv hts zST_in
  have hN : ∀ a : Nat, a < s.heap.size → ¬ (fun q => s.heap.size ≤ q) a := fun a h z => Nat.not_le.mpr h z
  have hf := zFl_at hgv
  refine ⟨D, tA, fun i => if i < 36 then s1 i else if i = 37 then b else s2 (i - 38), fun j => if j = 0 then L else (xs (j - 1)).toBitVec.toNat, ⟨hD, ⟨a1, a2, a3, a4, a5, a6, a7, a8, a9, hT⟩, fun w hw hn => va_Nw.of (zNest_tab hn) (hts w hw), Nat.le_refl _, ?_, ?_, fun i q hq => ?_, fun i hi => ?_, zNC_at hgv, ?_, ?_, ?_, ?_, hL⟩, rfl⟩
  · exact vx_Zqof (hts _ (List.mem_append_right _ (List.mem_of_getElem? (i := 543) (by decide +kernel)))) (hts _ (List.mem_append_right _ (List.mem_of_getElem? (i := 13) (by decide +kernel)))) (hf 4 _ (by decide +kernel)) hN
  · exact vx_Zqof (hts _ (List.mem_append_right _ (List.mem_of_getElem? (i := 545) (by decide +kernel)))) (hts _ (List.mem_append_right _ (List.mem_of_getElem? (i := 13) (by decide +kernel)))) (hf 5 _ (by decide +kernel)) hN
  · have h9 := hs1 i q hq
    have hi := (zST_get hq).1
    show vk_R q.1 q.2.1 q.2.2 (if i < 36 then s1 i else _) s
    rw [if_pos hi]; exact h9
  · have hi22 : i < 22 := hi
    have h9 := hs2 i hi
    have e1 : (if i < 36 then s1 i else if i = 37 then b else s2 (i - 38)) = s1 i := if_pos (by omega)
    have e2 : (if 38 + i < 36 then s1 (38 + i) else if 38 + i = 37 then b else s2 (38 + i - 38)) = s2 i := by rw [if_neg (by omega), if_neg (by omega), Nat.add_sub_cancel_left]
    dsimp only
    rw [e1, e2]
    exact h9
  · unfold Launch.stackTraces
    rw [hflags]
    decide +kernel
  · exact va_Zof (hts _ (List.mem_append_right _ (List.mem_of_getElem? (i := 639) (by decide +kernel)))) (hts _ (List.mem_append_right _ (List.mem_of_getElem? (i := 20) (by decide +kernel)))) (zeq_int (hf 6 _ (by decide +kernel))) hN
  · exact va_Zqof (hts _ (List.mem_append_right _ (List.mem_of_getElem? (i := 655) (by decide +kernel)))) (hts _ (List.mem_append_right _ (List.mem_of_getElem? (i := 22) (by decide +kernel)))) (hf 7 _ (by decide +kernel)) hN
  · obtain ⟨scr, h1, h2, h3, h4, h5⟩ := hX
    refine ⟨scr, h1, h2, h3, Nat.le_of_eq h4.symm, by rw [h4]; rfl, fun j hj => ?_, hN b hbl⟩
    rw [h5 j hj]
    show some (Value.int (xs j)) = some (Value.int (Int32.ofNat (if 1 + j = 0 then L else (xs (1 + j - 1)).toBitVec.toNat)))
    rw [if_neg (by omega), Nat.add_sub_cancel_left, zof_nat]
