/-! ===== what happens to a row, on its state ===== -/
def qPassed (S : zS) (c s : Nat) : zS :=
  tC (if s = 0 then tC (tC S c 1 1) c 0 (sC S c 0 - 1) else tC S c 1 0) c 3 (sC S c 3 + 1)
/-- somebody (0 with no card, c + 1 with the card c) has gone through from the side s -/
def qGone (S : zS) (w s : Nat) : zS :=
  if s = 0 then tX (tX (if w = 0 then S else qPassed S (w - 1) 0) 9 (sX S 9 + 1)) 3 (sX S 3 + 1)
  else tX (tX (if w = 0 then S else qPassed S (w - 1) 1) 10 (sX S 10 + 1)) 3 (sX S 3 - 1)
/-- the first one of a line goes through -/
def qGoes (S : zS) (g s : Nat) : zS := qGone (tL S g s ((sL S g s).eraseIdx 0)) ((sL S g s).getD 0 0) s
def qFlee1 (S : zS) (g : Nat) : zS := tX (qGoes S g 1) 14 (sX (qGoes S g 1) 14 + 1)
def qFlee (S : zS) (g : Nat) : Nat → zS
  | 0 => S
  | n + 1 => if sL S g 1 = [] then S else qFlee (qFlee1 S g) g n
def qFoll (S : zS) (g s : Nat) : zS := tG (tX (qGoes S g s) 11 (sX (qGoes S g s) 11 + 1)) g 4 (sG (tX (qGoes S g s) 11 (sX (qGoes S g s) 11 + 1)) g 4 + 1)
def qLess (S : zS) (g : Nat) : zS := if sG S g 1 - 1 = 0 then tG (tG S g 1 0) g 2 0 else tG S g 1 (sG S g 1 - 1)
def qSide (S : zS) (g : Nat) : Nat := if sG S g 2 = 2 then 1 else 0
def qPass (S : zS) (g : Nat) : zS :=
  if sG S g 3 = 1 then qLess (tG (qGoes S g (qSide S g)) g 3 0) g
  else if sL S g (qSide S g) ≠ [] ∧ (sL S g (qSide S g)).getD 0 0 = 0 then qLess (qFoll S g (qSide S g)) g
  else qLess S g
def qTurn (S : zS) (g : Nat) : Nat :=
  if sG S g 0 = 0 then 0 else if sG S g 0 = 1 then 1
  else if (sL S g 0).length ≠ (sL S g 1).length then (if (sL S g 1).length < (sL S g 0).length then 0 else 1)
  else if sG S g 6 = 1 then 1 else 0
/-- why a card is refused at a side -/
def qRef (S : zS) (c s : Nat) : Nat := if sC S c 2 = 1 then 1 else if sC S c 1 ≠ nI s then 2 else if s = 0 ∧ sC S c 0 = 0 then 3 else 0
def qAway (S : zS) (s : Nat) : zS := if s = 1 then tX (tX (tX S 12 (sX S 12 + 1)) 15 (sX S 15 + 1)) 3 (sX S 3 - 1) else tX S 12 (sX S 12 + 1)
def qOpened (S : zS) (g s : Nat) : zS := tG (tG (tG (tG (tG S g 1 (sX S 0)) g 2 (nI (s + 1))) g 3 1) g 5 (sG S g 5 + 1)) g 6 (nI (s + 1))
/-- the first one with a card stands at k -/
def qOpenAt (S : zS) (g s k : Nat) : zS :=
  if qRef S ((sL S g s).getD k 0 - 1) s = 0 then qOpened (tL S g s ((sL S g s).getD k 0 :: (sL S g s).eraseIdx k)) g s
  else qAway (tL S g s ((sL S g s).eraseIdx k)) s
def qFirst (w : List Nat) : Nat := w.findIdx (fun y => y != 0)
def qOpen (S : zS) (g : Nat) : zS := if qFirst (sL S g (qTurn S g)) < (sL S g (qTurn S g)).length then qOpenAt S g (qTurn S g) (qFirst (sL S g (qTurn S g))) else S
def zPanB (S : zS) : Bool := decide (1 < sX S 6 + sX S 7 + sX S 8)
theorem zPanB_iff {S : zS} : zPanB S = true ↔ zPan S := by unfold zPanB zPan; exact decide_eq_true_iff
def qLive (S : zS) (g : Nat) : zS :=
  if zPanB S = true then qFlee S g (sX S 1).toNatClampNeg else if sG S g 2 ≠ 0 then qPass S g else qOpen S g
def qGates (S : zS) : Nat → zS
  | 0 => S
  | n + 1 => qLive (qGates S n) n
def qTick (S : zS) : zS := tX (qGates S 6) 2 (sX (qGates S 6) 2 + 1)
def qTicks (S : zS) : Nat → zS
  | 0 => S
  | n + 1 => qTick (qTicks S n)
theorem qPassed_X {S : zS} {c s : Nat} : sX (qPassed S c s) = sX S := by unfold qPassed; split <;> rfl
theorem qPassed_G {S : zS} {c s : Nat} : sG (qPassed S c s) = sG S := by unfold qPassed; split <;> rfl
theorem qPassed_L {S : zS} {c s : Nat} : sL (qPassed S c s) = sL S := by unfold qPassed; split <;> rfl
theorem qPassed_M {S : zS} {c s : Nat} : sM (qPassed S c s) = sM S := by unfold qPassed; split <;> rfl
theorem qGone_G {S : zS} {w s : Nat} : sG (qGone S w s) = sG S := by unfold qGone; split <;> split <;> first | rfl | exact qPassed_G
theorem qGone_L {S : zS} {w s : Nat} : sL (qGone S w s) = sL S := by unfold qGone; split <;> split <;> first | rfl | exact qPassed_L
theorem qGone_M {S : zS} {w s : Nat} : sM (qGone S w s) = sM S := by unfold qGone; split <;> split <;> first | rfl | exact qPassed_M
theorem tX_X {S : zS} {i k : Nat} {v : Int32} : sX (tX S i v) k = if k = i then v else sX S k := rfl
theorem qGone_X {S : zS} {w s i : Nat} (h : i ≠ 3 ∧ i ≠ 9 ∧ i ≠ 10) : sX (qGone S w s) i = sX S i := by
  unfold qGone
  split <;> split <;> simp only [tX_X, if_neg h.1, if_neg h.2.1, if_neg h.2.2, qPassed_X]
theorem qGoes_L {S : zS} {g s : Nat} : sL (qGoes S g s) = zu2 (sL S) g s ((sL S g s).eraseIdx 0) := qGone_L
theorem qGoes_G {S : zS} {g s : Nat} : sG (qGoes S g s) = sG S := qGone_G
theorem zmem_erase {w : List Nat} {k : Nat} (h : ∀ y ∈ w, y ≤ 12) : ∀ y ∈ w.eraseIdx k, y ≤ 12 := fun y hy => h y (List.mem_of_mem_eraseIdx hy)
theorem qFirst_of {w : List Nat} {k : Nat} (h1 : k < w.length) (h2 : w.getD k 0 ≠ 0) (h3 : ∀ i, i < k → w.getD i 0 = 0) : qFirst w = k := by
  have hk : w.getD k 0 = w[k] := by rw [List.getD_eq_getElem?_getD, List.getElem?_eq_getElem h1]; rfl
  refine (List.findIdx_eq h1).mpr ⟨by rw [← hk]; simpa using h2, fun j hj => ?_⟩
  have h9 : j < w.length := by omega
  have := h3 j hj
  rw [List.getD_eq_getElem?_getD, List.getElem?_eq_getElem h9] at this
  have h8 : w[j] = 0 := this
  simp [h8]
theorem qFirst_none {w : List Nat} (h : ∀ i, i < w.length → w.getD i 0 = 0) : ¬ qFirst w < w.length := by
  intro z
  have h1 : (w[qFirst w]'z != 0) = true := List.findIdx_getElem (w := z)
  have := h _ z
  rw [List.getD_eq_getElem?_getD, List.getElem?_eq_getElem z] at this
  have h2 : w[qFirst w]'z = 0 := this
  rw [h2] at h1
  simp at h1
