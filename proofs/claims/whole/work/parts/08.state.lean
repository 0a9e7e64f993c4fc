/-! ===== the state of a row, as a mathematical thing, and how the class's cells hold it ===== -/
theorem zdec1 {n : Nat} (h : 0 < n) : nI n + Int32.ofInt (-1) = nI (n - 1) := by
  obtain ⟨k, rfl⟩ : ∃ k, n = k + 1 := ⟨n - 1, by omega⟩
  exact pk_m1 k
/-- a line of people: 0 is one with no card, c + 1 one with the card c; as the class's Line at a holds it -/
def zLn (I : zI) (a : Nat) (w : List Nat) : Prop := I a 1 = nI w.length ∧ w.length ≤ 10 ∧ ∀ p, p < w.length → I (a + 1) p = nI (w.getD p 0) - 1
theorem zLn.kept {I I' : zI} {a : Nat} {w : List Nat} (h : zLn I a w) (h1 : I' a = I a) (h2 : I' (a + 1) = I (a + 1)) : zLn I' a w := ⟨by rw [h1]; exact h.1, h.2.1, fun p hp => by rw [h2]; exact h.2.2 p hp⟩
theorem zgetD_erase {w : List Nat} {k p : Nat} : (w.eraseIdx k).getD p 0 = if p < k then w.getD p 0 else w.getD (p + 1) 0 := by
  rw [List.getD_eq_getElem?_getD, List.getElem?_eraseIdx]
  split <;> rw [List.getD_eq_getElem?_getD]
theorem zlen_erase {w : List Nat} {k : Nat} (h : k < w.length) : (w.eraseIdx k).length = w.length - 1 := by rw [List.length_eraseIdx, if_pos h]
theorem zLn_erase {I : zI} {a k : Nat} {w : List Nat} (h : zLn I a w) (hk : k < w.length) : zLn (zput (zshl I (a + 1) k (w.length - 1)) a 1 (nI (w.length - 1))) a (w.eraseIdx k) := by
  refine ⟨by rw [zput_eq, zlen_erase hk], by rw [zlen_erase hk]; have := h.2.1; omega, fun p hp => ?_⟩
  rw [zlen_erase hk] at hp
  rw [zput_ne (by omega), zgetD_erase]
  by_cases h1 : p < k
  · rw [if_pos h1, zshl_out (Or.inl h1), h.2.2 p (by omega)]
  · rw [if_neg h1, zshl_in (by omega) hp, h.2.2 (p + 1) (by omega)]
theorem zLn_front {I : zI} {a k : Nat} {w : List Nat} (h : zLn I a w) (hk : k < w.length) : zLn (zput (zshr I (a + 1) 0 k) (a + 1) 0 (nI (w.getD k 0) - 1)) a (w.getD k 0 :: w.eraseIdx k) := by
  have hl : (w.getD k 0 :: w.eraseIdx k).length = w.length := by rw [List.length_cons, zlen_erase hk]; omega
  refine ⟨by rw [zput_ne (by omega), zshr_ne (by omega), hl]; exact h.1, by rw [hl]; exact h.2.1, fun p hp => ?_⟩
  rw [hl] at hp
  cases p with
  | zero => rw [zput_eq]; rfl
  | succ p =>
    rw [zput_nj (by omega), List.getD_cons_succ, zgetD_erase]
    by_cases h1 : p < k
    · rw [if_pos h1, zshr_in (by omega) (by omega), Nat.add_sub_cancel, h.2.2 p (by omega)]
    · rw [if_neg h1, zshr_out (by omega), h.2.2 (p + 1) (by omega)]
theorem zLn_add {I : zI} {a x : Nat} {w : List Nat} (h : zLn I a w) (hk : w.length < 10) : zLn (zput (zput I (a + 1) w.length (nI x - 1)) a 1 (nI (w.length + 1))) a (w ++ [x]) := by
  refine ⟨by rw [zput_eq, List.length_append]; rfl, by rw [List.length_append]; exact hk, fun p hp => ?_⟩
  rw [List.length_append] at hp
  have hp2 : p < w.length + 1 := hp
  rw [zput_ne (by omega)]
  by_cases h1 : p = w.length
  · subst h1
    rw [zput_eq]
    simp [List.getD_eq_getElem?_getD]
  · have h2 : p < w.length := by omega
    rw [zput_nj h1, h.2.2 p h2]
    simp [List.getD_eq_getElem?_getD, List.getElem?_append_left h2]
theorem zw1 {x : Nat} (h : x < 2 ^ 30) : nI x - 1 = -1 ↔ x = 0 := by
  constructor
  · intro e
    have h1 : nI x = 0 := by
      have := congrArg (fun z => z + 1) e
      simpa using this
    rw [← nI_0, nI_eq (by omega) (by decide)] at h1
    exact h1
  · intro e; subst e; rfl
theorem zwc {x c : Nat} (h : x < 2 ^ 30) (hc : c < 2 ^ 30) : nI x - 1 = nI c ↔ x = c + 1 := by
  constructor
  · intro e
    have h1 : nI x = nI (c + 1) := by
      have := congrArg (fun z => z + 1) e
      simp at this
      rw [this, nI_1]
    rwa [nI_eq (by omega) (by omega)] at h1
  · intro e; subst e
    have := pk_sub (a := c + 1) (b := 1) (by omega)
    exact this
/-- the first place where x stands; the length if none -/
def zix (w : List Nat) (f : Nat → Bool) : Nat := w.findIdx f
