/-! ===== the state of a row, as a mathematical thing, and how the class's cells hold it ===== -/
theorem zdec1 {n : Nat} (h : 0 < n) : nI n + Int32.ofInt (-1) = nI (n - 1) := by
  obtain ⟨k, rfl⟩ : ∃ k, n = k + 1 := ⟨n - 1, by omega⟩
  exact pk_m1 k
/-- a line of people: 0 is one with no card, c + 1 one with the card c; as the class's Line at a holds it -/
def zLn (I : zI) (a : Nat) (w : List Nat) : Prop := I a 1 = nI w.length ∧ w.length ≤ 10 ∧ ∀ p, p < w.length → I (a + 1) p = nI (w.getD p 0) - 1
theorem zLn.kept {I I' : zI} {a : Nat} {w : List Nat} (h : zLn I a w) (h1 : I' a = I a) (h2 : I' (a + 1) = I (a + 1)) : zLn I' a w := ⟨by rw [h1]; exact h.1, h.2.1, fun p hp => by rw [h2]; exact h.2.2 p hp⟩
theorem zgetD_erase {w : List Nat} {k p : Nat} : (w.eraseIdx k).getD p 0 = if p < k then w.getD p 0 else w.getD (p + 1) 0 := by
  rw [List.getD_eq_getElem?_getD, List.getElem?_eraseIdx]
  split <;> rw [List.getD_eq_getElem?_getD]
theorem zlen_erase {w : List Nat} {k : Nat} (h : k < w.length) : (w.eraseIdx k).length = w.length - 1 := by rw [List.length_eraseIdx, if_pos h]
theorem zLn_erase {I : zI} {a k : Nat} {w : List Nat} (h : zLn I a w) (hk : k < w.length) : zLn (zput (zshl I (a + 1) k (w.length - 1)) a 1 (nI (w.length - 1))) a (w.eraseIdx k) := by
  refine ⟨by rw [zput_eq, zlen_erase hk], by rw [zlen_erase hk]; have := h.2.1; omega, fun p hp => ?_⟩
  rw [zlen_erase hk] at hp
  rw [zput_ne (by omega), zgetD_erase]
  by_cases h1 : p < k
  · rw [if_pos h1, zshl_out (Or.inl h1), h.2.2 p (by omega)]
  · rw [if_neg h1, zshl_in (by omega) hp, h.2.2 (p + 1) (by omega)]
theorem zLn_front {I : zI} {a k : Nat} {w : List Nat} (h : zLn I a w) (hk : k < w.length) : zLn (zput (zshr I (a + 1) 0 k) (a + 1) 0 (nI (w.getD k 0) - 1)) a (w.getD k 0 :: w.eraseIdx k) := by
  have hl : (w.getD k 0 :: w.eraseIdx k).length = w.length := by rw [List.length_cons, zlen_erase hk]; omega
  refine ⟨by rw [zput_ne (by omega), zshr_ne (by omega), hl]; exact h.1, by rw [hl]; exact h.2.1, fun p hp => ?_⟩
  rw [hl] at hp
  cases p with
  | zero => rw [zput_eq]; rfl
  | succ p =>
    rw [zput_nj (by omega), List.getD_cons_succ, zgetD_erase]
    by_cases h1 : p < k
    · rw [if_pos h1, zshr_in (by omega) (by omega), Nat.add_sub_cancel, h.2.2 p (by omega)]
    · rw [if_neg h1, zshr_out (by omega), h.2.2 (p + 1) (by omega)]
theorem zLn_add {I : zI} {a x : Nat} {w : List Nat} (h : zLn I a w) (hk : w.length < 10) : zLn (zput (zput I (a + 1) w.length (nI x - 1)) a 1 (nI (w.length + 1))) a (w ++ [x]) := by
  refine ⟨by rw [zput_eq, List.length_append]; rfl, by rw [List.length_append]; exact hk, fun p hp => ?_⟩
  rw [List.length_append] at hp
  have hp2 : p < w.length + 1 := hp
  rw [zput_ne (by omega)]
  by_cases h1 : p = w.length
  · subst h1
    rw [zput_eq]
    simp [List.getD_eq_getElem?_getD]
  · have h2 : p < w.length := by omega
    rw [zput_nj h1, h.2.2 p h2]
    simp [List.getD_eq_getElem?_getD, List.getElem?_append_left h2]
theorem zw1 {x : Nat} (h : x < 2 ^ 30) : nI x - 1 = -1 ↔ x = 0 := by
  constructor
  · intro e
    have h1 : nI x = 0 := by
      have := congrArg (fun z => z + 1) e
      simpa using this
    rw [← nI_0, nI_eq (by omega) (by decide)] at h1
    exact h1
  · intro e; subst e; rfl
theorem zwc {x c : Nat} (h : x < 2 ^ 30) (hc : c < 2 ^ 30) : nI x - 1 = nI c ↔ x = c + 1 := by
  constructor
  · intro e
    have h1 : nI x = nI (c + 1) := by
      have := congrArg (fun z => z + 1) e
      simp at this
      rw [this, nI_1]
    rwa [nI_eq (by omega) (by omega)] at h1
  · intro e; subst e
    have := pk_sub (a := c + 1) (b := 1) (by omega)
    exact this
/-- the first place where x stands; the length if none -/
def zix (w : List Nat) (f : Nat → Bool) : Nat := w.findIdx f

theorem zLn.put {I : zI} {a q j : Nat} {x : Int32} {w : List Nat} (h : zLn I a w) (h1 : a ≠ q) (h2 : a + 1 ≠ q) : zLn (zput I q j x) a w := h.kept (zput_nq h1) (zput_nq h2)
theorem zLn.ag {I I' : zI} {a lo n : Nat} {w : List Nat} (hg : zag I I' lo n) (ho : a + 2 ≤ lo ∨ lo + n ≤ a) (h : zLn I a w) : zLn I' a w := h.kept (hg a (by omega)) (hg (a + 1) (by omega))
/-- a gate, a card, as the class's objects hold them -/
def zGt (I : zI) (a : Nat) (G : Nat → Int32) (w0 w1 : List Nat) : Prop := (I a 2 = G 0 ∧ I a 3 = G 1 ∧ I a 4 = G 2 - 1 ∧ I a 5 = G 3 ∧ I a 6 = G 4 ∧ I a 7 = G 5 ∧ I a 8 = G 6 - 1) ∧ zLn I (a + 1) w0 ∧ zLn I (a + 3) w1
def zCd (I : zI) (a : Nat) (C : Nat → Int32) (nm : Int32) : Prop := I a 0 = nm ∧ I a 1 = C 0 ∧ I a 2 = C 1 ∧ I a 3 = C 2 ∧ I a 4 = C 3
theorem zGt.ag {I I' : zI} {a lo n : Nat} {G : Nat → Int32} {w0 w1 : List Nat} (hg : zag I I' lo n) (ho : a + 5 ≤ lo ∨ lo + n ≤ a) (h : zGt I a G w0 w1) : zGt I' a G w0 w1 := by
  refine ⟨?_, h.2.1.ag hg (by omega), h.2.2.ag hg (by omega)⟩
  rw [hg a (by omega)]; exact h.1
theorem zCd.ag {I I' : zI} {a lo n : Nat} {C : Nat → Int32} {nm : Int32} (hg : zag I I' lo n) (ho : a + 1 ≤ lo ∨ lo + n ≤ a) (h : zCd I a C nm) : zCd I' a C nm := by
  unfold zCd
  rw [hg a (by omega)]; exact h
/-- X: 0 hold, 1 flow, 2 ticks, 3 inside, 4 gates, 5 cards, 6 to 8 keys, 9 went in, 10 went out, 11 followers, 12 away, 13 refused, 14 fled, 15 lost; G: 0 mode, 1 open, 2 side + 1, 3 due, 4 alarms, 5 opened, 6 latest + 1; L: lines; C: 0 trips, 1 inside, 2 listed, 3 times; M: a name's letters -/
abbrev zS : Type := (Nat → Int32) × (Nat → Nat → Int32) × (Nat → Nat → List Nat) × (Nat → Nat → Int32) × (Nat → Nat → Int32)
abbrev sX (S : zS) : Nat → Int32 := S.1
abbrev sG (S : zS) : Nat → Nat → Int32 := S.2.1
abbrev sL (S : zS) : Nat → Nat → List Nat := S.2.2.1
abbrev sC (S : zS) : Nat → Nat → Int32 := S.2.2.2.1
abbrev sM (S : zS) : Nat → Nat → Int32 := S.2.2.2.2
def zu2 {α : Type} (f : Nat → Nat → α) (a b : Nat) (v : α) : Nat → Nat → α := fun x y => if x = a ∧ y = b then v else f x y
theorem zu2_eq {α : Type} {f : Nat → Nat → α} {a b : Nat} {v : α} : zu2 f a b v a b = v := by rw [zu2, if_pos ⟨rfl, rfl⟩]
theorem zu2_ne {α : Type} {f : Nat → Nat → α} {a b x y : Nat} {v : α} (h : ¬ (x = a ∧ y = b)) : zu2 f a b v x y = f x y := by rw [zu2, if_neg h]
def tX (S : zS) (i : Nat) (v : Int32) : zS := (va_up S.1 i v, S.2)
def tG (S : zS) (g j : Nat) (v : Int32) : zS := (S.1, zu2 S.2.1 g j v, S.2.2)
def tL (S : zS) (g s : Nat) (w : List Nat) : zS := (S.1, S.2.1, zu2 S.2.2.1 g s w, S.2.2.2)
def tC (S : zS) (c j : Nat) (v : Int32) : zS := (S.1, S.2.1, S.2.2.1, zu2 S.2.2.2.1 c j v, S.2.2.2.2)
def tM (S : zS) (c j : Nat) (v : Int32) : zS := (S.1, S.2.1, S.2.2.1, S.2.2.2.1, zu2 S.2.2.2.2 c j v)
/-- a name as a number -/
def znm (f : Nat → Int32) : Nat → Int32
  | 0 => 0
  | k + 1 => if f k = 0 then znm f k else 27 * znm f k + (f k - 97 + 1)
def zslot : Nat → Nat
  | 0 => 4 | 1 => 5 | 2 => 7 | 3 => 8 | 4 => 2 | 5 => 3 | 6 => 6 | 9 => 9 | 10 => 10 | 11 => 11 | 12 => 12 | 13 => 14 | 14 => 15 | 15 => 13 | _ => 6
/-- the class's Row at r holds S -/
def zRw (I : zI) (r : Nat) (S : zS) : Prop :=
  (∀ i : Nat, i < 16 → zslot i ≠ 6 → I r (zslot i) = sX S i) ∧ I r 6 = sX S 6 + 2 * sX S 7 + 4 * sX S 8 ∧
  (∀ g : Nat, g < 6 → zGt I (r + 1 + 2 + 5 * g) (sG S g) (sL S g 0) (sL S g 1)) ∧
  (∀ c : Nat, c < 12 → zCd I (r + 2 + 31 + 1 * c) (sC S c) (znm (sM S c) 6))
theorem zRw.ag {I I' : zI} {r lo n : Nat} {S : zS} (hg : zag I I' lo n) (ho : r + 45 ≤ lo ∨ lo + n ≤ r) (h : zRw I r S) : zRw I' r S := by
  have e := hg r (by omega)
  exact ⟨fun i h1 h2 => by rw [e]; exact h.1 i h1 h2, by rw [e]; exact h.2.1, fun g h1 => (h.2.2.1 g h1).ag hg (by omega), fun c h1 => (h.2.2.2 c h1).ag hg (by omega)⟩
theorem zRw_X {I : zI} {r i : Nat} {S : zS} {v : Int32} (h : zRw I r S) (hi : i < 16) (hs : zslot i ≠ 6) : zRw (zput I r (zslot i) v) r (tX S i v) := by
  have hag : zag I (zput I r (zslot i) v) r 1 := zag.rf.put (by omega) (by omega)
  have hinj : ∀ k : Nat, k < 16 → zslot k ≠ 6 → k ≠ i → zslot k ≠ zslot i := by
    have h9 : ∀ k : Nat, k < 16 → ∀ j : Nat, j < 16 → zslot k ≠ 6 → k ≠ j → zslot k ≠ zslot j := by decide
    exact fun k hk h6 hn => h9 k hk i hi h6 hn
  refine ⟨fun k hk h6 => ?_, ?_, fun g hg => (h.2.2.1 g hg).ag hag (by omega), fun c hc => (h.2.2.2 c hc).ag hag (by omega)⟩
  · by_cases e : k = i
    · subst e; rw [zput_eq]; simp [tX, sX, va_up]
    · rw [zput_nj (hinj k hk h6 e), h.1 k hk h6]; simp [tX, sX, va_up, e]
  · have h678 : i ≠ 6 ∧ i ≠ 7 ∧ i ≠ 8 := ⟨fun z => hs (by subst z; rfl), fun z => hs (by subst z; rfl), fun z => hs (by subst z; rfl)⟩
    rw [zput_nj (Ne.symm hs), h.2.1]
    simp [tX, sX, va_up, Ne.symm h678.1, Ne.symm h678.2.1, Ne.symm h678.2.2]
/-- a change of one gate's own numbers, of one line, of one card -/
theorem zRw_g {I I' : zI} {r g : Nat} {S S' : zS} (h : zRw I r S) (hg : g < 6) (hag : zag I I' (r + 1 + 2 + 5 * g) 5) (hX : sX S' = sX S) (hC : sC S' = sC S) (hM : sM S' = sM S) (hG : ∀ k, k ≠ g → sG S' k = sG S k ∧ sL S' k = sL S k) (hn : zGt I' (r + 1 + 2 + 5 * g) (sG S' g) (sL S' g 0) (sL S' g 1)) : zRw I' r S' := by
  have e := hag r (by omega)
  refine ⟨fun i h1 h2 => by rw [e, hX]; exact h.1 i h1 h2, by rw [e, hX]; exact h.2.1, fun k hk => ?_, fun c hc => ?_⟩
  · by_cases e2 : k = g
    · subst e2; exact hn
    · rw [(hG k e2).1, (hG k e2).2]
      exact (h.2.2.1 k hk).ag hag (by omega)
  · rw [hC, hM]; exact (h.2.2.2 c hc).ag hag (by omega)
theorem zRw_c {I I' : zI} {r c : Nat} {S S' : zS} (h : zRw I r S) (hc : c < 12) (hag : zag I I' (r + 2 + 31 + 1 * c) 1) (hX : sX S' = sX S) (hG : sG S' = sG S) (hL : sL S' = sL S) (hC : ∀ k, k ≠ c → sC S' k = sC S k ∧ sM S' k = sM S k) (hn : zCd I' (r + 2 + 31 + 1 * c) (sC S' c) (znm (sM S' c) 6)) : zRw I' r S' := by
  have e := hag r (by omega)
  refine ⟨fun i h1 h2 => by rw [e, hX]; exact h.1 i h1 h2, by rw [e, hX]; exact h.2.1, fun k hk => ?_, fun k hk => ?_⟩
  · rw [hG, hL]; exact (h.2.2.1 k hk).ag hag (by omega)
  · by_cases e2 : k = c
    · subst e2; exact hn
    · rw [(hC k e2).1, (hC k e2).2]
      exact (h.2.2.2 k hk).ag hag (by omega)
theorem zRw_L {I I' : zI} {r g s a : Nat} {S : zS} {w : List Nat} (h : zRw I r S) (hg : g < 6) (hs : (s = 0 ∧ a = r + 1 + 2 + 5 * g + 1) ∨ (s = 1 ∧ a = r + 1 + 2 + 5 * g + 3)) (hag : zag I I' a 2) (hn : zLn I' a w) : zRw I' r (tL S g s w) := by
  have h9 := h.2.2.1 g hg
  refine zRw_g h hg (hag.wide (by omega) (by omega)) rfl rfl rfl (fun k hk => ⟨rfl, ?_⟩) ?_
  · funext y
    show zu2 (sL S) g s w k y = sL S k y
    exact zu2_ne (fun z => hk z.1)
  · have e := hag (r + 1 + 2 + 5 * g) (by omega)
    refine ⟨by rw [e]; exact h9.1, ?_, ?_⟩
    · show zLn I' _ (zu2 (sL S) g s w g 0)
      rcases hs with ⟨rfl, rfl⟩ | ⟨rfl, rfl⟩
      · rw [zu2_eq]; exact hn
      · rw [zu2_ne (by omega)]; exact h9.2.1.ag hag (by omega)
    · show zLn I' _ (zu2 (sL S) g s w g 1)
      rcases hs with ⟨rfl, rfl⟩ | ⟨rfl, rfl⟩
      · rw [zu2_ne (by omega)]; exact h9.2.2.ag hag (by omega)
      · rw [zu2_eq]; exact hn
/-- a gate's number j is kept at the slot j + 2, those of sides one less -/
def zgv (j : Nat) (v : Int32) : Int32 := if j = 2 ∨ j = 6 then v - 1 else v
theorem zGt_j {I : zI} {a j : Nat} {G : Nat → Int32} {w0 w1 : List Nat} (h : zGt I a G w0 w1) (hj : j < 7) : I a (j + 2) = zgv j (G j) := by
  obtain ⟨⟨h0, h1, h2, h3, h4, h5, h6⟩, -⟩ := h
  rcases (show j = 0 ∨ j = 1 ∨ j = 2 ∨ j = 3 ∨ j = 4 ∨ j = 5 ∨ j = 6 by omega) with rfl | rfl | rfl | rfl | rfl | rfl | rfl <;> assumption
theorem zGt_mk {I : zI} {a : Nat} {G : Nat → Int32} {w0 w1 : List Nat} (h : ∀ j, j < 7 → I a (j + 2) = zgv j (G j)) (h0 : zLn I (a + 1) w0) (h1 : zLn I (a + 3) w1) : zGt I a G w0 w1 :=
  ⟨⟨h 0 (by omega), h 1 (by omega), h 2 (by omega), h 3 (by omega), h 4 (by omega), h 5 (by omega), h 6 (by omega)⟩, h0, h1⟩
theorem zRw_G {I : zI} {r g j k : Nat} {S : zS} {v x : Int32} (h : zRw I r S) (hg : g < 6) (hj : j < 7) (hk : k = j + 2) (hx : x = zgv j v) : zRw (zput I (r + 1 + 2 + 5 * g) k x) r (tG S g j v) := by
  subst hk hx
  have h9 := h.2.2.1 g hg
  refine zRw_g h hg (zag.rf.put (by omega) (by omega)) rfl rfl rfl (fun k hk => ⟨?_, rfl⟩) ?_
  · funext y
    show zu2 (sG S) g j v k y = sG S k y
    exact zu2_ne (fun z => hk z.1)
  · refine zGt_mk (fun i hi => ?_) (h9.2.1.put (by omega) (by omega)) (h9.2.2.put (by omega) (by omega))
    show _ = zgv i (zu2 (sG S) g j v g i)
    by_cases e : i = j
    · subst e; rw [zput_eq, zu2_eq]
    · rw [zput_nj (by omega), zu2_ne (fun z => e z.2)]
      exact zGt_j h9 hi
theorem zRw_C {I : zI} {r c j k : Nat} {S : zS} {v : Int32} (h : zRw I r S) (hc : c < 12) (hj : j < 4) (hk : k = j + 1) : zRw (zput I (r + 2 + 31 + 1 * c) k v) r (tC S c j v) := by
  subst hk
  obtain ⟨h0, h1, h2, h3, h4⟩ := h.2.2.2 c hc
  refine zRw_c h hc (zag.rf.put (by omega) (by omega)) rfl rfl rfl (fun k hk => ⟨?_, rfl⟩) ?_
  · funext y
    show zu2 (sC S) c j v k y = sC S k y
    exact zu2_ne (fun z => hk z.1)
  · have key : ∀ i, i < 4 → zput I (r + 2 + 31 + 1 * c) (j + 1) v (r + 2 + 31 + 1 * c) (i + 1) = zu2 (sC S) c j v c i := by
      intro i hi
      by_cases e : i = j
      · subst e; rw [zput_eq, zu2_eq]
      · rw [zput_nj (by omega), zu2_ne (fun z => e z.2)]
        rcases (show i = 0 ∨ i = 1 ∨ i = 2 ∨ i = 3 by omega) with rfl | rfl | rfl | rfl <;> assumption
    exact ⟨by rw [zput_nj (by omega)]; exact h0, key 0 (by omega), key 1 (by omega), key 2 (by omega), key 3 (by omega)⟩
