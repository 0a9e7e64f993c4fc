/-! ===== what a state of a row always is ===== -/
def zng (S : zS) : Nat := (sX S 4).toNatClampNeg
def znc (S : zS) : Nat := (sX S 5).toNatClampNeg
/-- the card c stands in the line of the gate g, side s, at the place p -/
def zAt (S : zS) (c g s p : Nat) : Prop := g < 6 ∧ s < 2 ∧ (sL S g s)[p]? = some (c + 1)
/-- a panic: two or three keys -/
def zPan (S : zS) : Prop := 1 < sX S 6 + sX S 7 + sX S 8
/-- a gate's paddles -/
def zPad (S : zS) (g : Nat) : Prop := (sG S g 0 = 0 ∨ sG S g 0 = 1 ∨ sG S g 0 = 2) ∧ (sG S g 6 = 0 ∨ sG S g 6 = 1 ∨ sG S g 6 = 2) ∧
  ((sG S g 2 = 0 ∧ sG S g 1 = 0 ∧ sG S g 3 = 0) ∨ (∃ o : Nat, 1 ≤ o ∧ o ≤ 9 ∧ sG S g 1 = nI o ∧ ((sG S g 2 = 1 ∧ (sG S g 3 = 0 ∨ (sG S g 3 = 1 ∧ sL S g 0 ≠ []))) ∨ (sG S g 2 = 2 ∧ (sG S g 3 = 0 ∨ (sG S g 3 = 1 ∧ sL S g 1 ≠ []))))))
def zWf (S : zS) : Prop :=
  (zng S ≤ 6 ∧ sX S 4 = nI (zng S)) ∧ (znc S ≤ 12 ∧ sX S 5 = nI (znc S)) ∧
  (∀ g : Nat, zng S ≤ g → (∀ j : Nat, sG S g j = 0) ∧ ∀ s : Nat, sL S g s = []) ∧
  (∀ (g s y : Nat), y ∈ sL S g s → y ≤ znc S) ∧ (∀ (g s : Nat), (sL S g s).length ≤ 10) ∧
  ((∃ h : Nat, 1 ≤ h ∧ h ≤ 9 ∧ sX S 0 = nI h) ∧ ∃ f : Nat, 1 ≤ f ∧ f ≤ 4 ∧ sX S 1 = nI f) ∧
  ((sX S 6 = 0 ∨ sX S 6 = 1) ∧ (sX S 7 = 0 ∨ sX S 7 = 1) ∧ (sX S 8 = 0 ∨ sX S 8 = 1)) ∧
  (∀ g : Nat, zPad S g) ∧ (zPan S → ∀ g : Nat, sG S g 2 = 0) ∧
  (∀ c g s p g' s' p' : Nat, zAt S c g s p → zAt S c g' s' p' → g = g' ∧ s = s' ∧ p = p') ∧
  (∀ c : Nat, (sC S c 1 = 0 ∨ sC S c 1 = 1) ∧ (sC S c 2 = 0 ∨ sC S c 2 = 1)) ∧
  (∀ c : Nat, znc S ≤ c → (∀ j : Nat, sC S c j = 0) ∧ ∀ k : Nat, sM S c k = 0) ∧
  (∀ c : Nat, c < znc S → ∃ n : Nat, 1 ≤ n ∧ n ≤ 6 ∧ ∀ k : Nat, (k < n → 97 ≤ sM S c k ∧ sM S c k ≤ 122) ∧ (n ≤ k → sM S c k = 0))
theorem zWf.ng {S : zS} (h : zWf S) : zng S ≤ 6 ∧ sX S 4 = nI (zng S) := h.1
theorem zWf.nc {S : zS} (h : zWf S) : znc S ≤ 12 ∧ sX S 5 = nI (znc S) := h.2.1
theorem zWf.blank {S : zS} (h : zWf S) : ∀ g : Nat, zng S ≤ g → (∀ j : Nat, sG S g j = 0) ∧ ∀ s : Nat, sL S g s = [] := h.2.2.1
theorem zWf.le {S : zS} (h : zWf S) : ∀ (g s y : Nat), y ∈ sL S g s → y ≤ znc S := h.2.2.2.1
theorem zWf.le12 {S : zS} (h : zWf S) (g s : Nat) : ∀ y ∈ sL S g s, y ≤ 12 := fun y hy => Nat.le_trans (h.le g s y hy) h.nc.1
theorem zWf.len {S : zS} (h : zWf S) : ∀ (g s : Nat), (sL S g s).length ≤ 10 := h.2.2.2.2.1
theorem zWf.hold {S : zS} (h : zWf S) : ∃ h : Nat, 1 ≤ h ∧ h ≤ 9 ∧ sX S 0 = nI h := h.2.2.2.2.2.1.1
theorem zWf.flow {S : zS} (h : zWf S) : ∃ f : Nat, 1 ≤ f ∧ f ≤ 4 ∧ sX S 1 = nI f := h.2.2.2.2.2.1.2
theorem zWf.keys {S : zS} (h : zWf S) : (sX S 6 = 0 ∨ sX S 6 = 1) ∧ (sX S 7 = 0 ∨ sX S 7 = 1) ∧ (sX S 8 = 0 ∨ sX S 8 = 1) := h.2.2.2.2.2.2.1
theorem zWf.pad {S : zS} (h : zWf S) : ∀ g : Nat, zPad S g := h.2.2.2.2.2.2.2.1
theorem zWf.pan {S : zS} (h : zWf S) : zPan S → ∀ g : Nat, sG S g 2 = 0 := h.2.2.2.2.2.2.2.2.1
theorem zWf.uniq {S : zS} (h : zWf S) : ∀ c g s p g' s' p' : Nat, zAt S c g s p → zAt S c g' s' p' → g = g' ∧ s = s' ∧ p = p' := h.2.2.2.2.2.2.2.2.2.1
theorem zWf.bits {S : zS} (h : zWf S) : ∀ c : Nat, (sC S c 1 = 0 ∨ sC S c 1 = 1) ∧ (sC S c 2 = 0 ∨ sC S c 2 = 1) := h.2.2.2.2.2.2.2.2.2.2.1
theorem zWf.blankc {S : zS} (h : zWf S) : ∀ c : Nat, znc S ≤ c → (∀ j : Nat, sC S c j = 0) ∧ ∀ k : Nat, sM S c k = 0 := h.2.2.2.2.2.2.2.2.2.2.2.1
theorem zWf.names {S : zS} (h : zWf S) : ∀ c : Nat, c < znc S → ∃ n : Nat, 1 ≤ n ∧ n ≤ 6 ∧ ∀ k : Nat, (k < n → 97 ≤ sM S c k ∧ sM S c k ≤ 122) ∧ (n ≤ k → sM S c k = 0) := h.2.2.2.2.2.2.2.2.2.2.2.2
theorem zRw.ng {I : zI} {r : Nat} {S : zS} (h : zRw I r S) (hW : zWf S) : I r 2 = nI (zng S) := (h.1 4 (by decide) (by decide)).trans hW.ng.2
theorem zRw.nc {I : zI} {r : Nat} {S : zS} (h : zRw I r S) (hW : zWf S) : I r 3 = nI (znc S) := (h.1 5 (by decide) (by decide)).trans hW.nc.2
theorem zm1 {n : Nat} (h : n < 2 ^ 31) : ¬ nI n = -1 := fun e => by
  have h1 := nI_toInt h
  rw [e] at h1
  have h2 : ((-1 : Int32)).toInt = -1 := by decide
  omega
/-- sums of numbers -/
def nsum (f : Nat → Nat) : Nat → Nat
  | 0 => 0
  | n + 1 => nsum f n + f n
theorem nsum_le {f : Nat → Nat} {b : Nat} (h : ∀ i, f i ≤ b) : ∀ n, nsum f n ≤ n * b
  | 0 => by simp [nsum]
  | n + 1 => by
    have := nsum_le h n
    have := h n
    rw [nsum, Nat.succ_mul]; omega
theorem nsum_tail {f : Nat → Nat} {m : Nat} (h : ∀ i, m ≤ i → f i = 0) : ∀ n, m ≤ n → nsum f n = nsum f m
  | 0, hm => by rw [Nat.le_zero.mp hm]
  | n + 1, hm => by
    by_cases e : m = n + 1
    · rw [e]
    · rw [nsum, nsum_tail h n (by omega), h n (by omega), Nat.add_zero]
theorem nsum_add {f g : Nat → Nat} : ∀ n, nsum (fun i => f i + g i) n = nsum f n + nsum g n
  | 0 => rfl
  | n + 1 => by rw [nsum, nsum, nsum, nsum_add n]; omega
theorem nsum_congr {f g : Nat → Nat} : ∀ n, (∀ i, i < n → f i = g i) → nsum f n = nsum g n
  | 0, _ => rfl
  | n + 1, h => by rw [nsum, nsum, nsum_congr n (fun i hi => h i (by omega)), h n (by omega)]
