/-! ===== a text, its tokens ===== -/
/-- a byte as the class keeps it -/
def zsg (v : Nat) : Int32 := if v < 128 then nI v else nI v - 256
def zrun (f : Nat → Bool) : Nat → Nat → Nat
  | 0, p => p
  | k + 1, p => if f p = true then zrun f k (p + 1) else p
theorem zrun_go {f : Nat → Bool} {n p : Nat} (h : p < n) (hf : f p = true) : zrun f (n - p) p = zrun f (n - (p + 1)) (p + 1) := by
  rw [show n - p = (n - (p + 1)) + 1 by omega, zrun, if_pos hf]
theorem zrun_end {f : Nat → Bool} {n p : Nat} (h : ¬ (p < n ∧ f p = true)) : zrun f (n - p) p = p := by
  cases e : n - p with
  | zero => rfl
  | succ k => rw [zrun, if_neg (fun z => h ⟨by omega, z⟩)]
theorem zrun_le {f : Nat → Bool} : ∀ (k p : Nat), p ≤ zrun f k p ∧ zrun f k p ≤ p + k
  | 0, p => ⟨Nat.le_refl _, Nat.le_refl _⟩
  | k + 1, p => by
    rw [zrun]
    have := zrun_le (f := f) k (p + 1)
    split <;> omega
theorem zrun_all {f : Nat → Bool} : ∀ (k p i : Nat), p ≤ i → i < zrun f k p → f i = true
  | 0, p, i, h1, h2 => by rw [zrun] at h2; omega
  | k + 1, p, i, h1, h2 => by
    rw [zrun] at h2
    split at h2
    · rename_i e
      by_cases q : i = p
      · rw [q]; exact e
      · exact zrun_all k (p + 1) i (by omega) h2
    · omega
theorem zrun_not {f : Nat → Bool} : ∀ (k p : Nat), zrun f k p < p + k → f (zrun f k p) = false
  | 0, p, h => by rw [zrun] at h; omega
  | k + 1, p, h => by
    rw [zrun] at h ⊢
    split
    · rename_i e
      rw [if_pos e] at h
      exact zrun_not k (p + 1) (by omega)
    · rename_i e
      cases hf : f p with
      | false => rfl
      | true => exact absurd hf e
def tDig (v : Nat) : Bool := decide (48 ≤ v ∧ v ≤ 57)
def tLet (v : Nat) : Bool := decide (97 ≤ v ∧ v ≤ 122)
def tSkip (t : Nat → Nat) (n p : Nat) : Nat := zrun (fun q => decide (t q = 32)) (n - p) p
def tEndD (t : Nat → Nat) (n p : Nat) : Nat := zrun (fun q => tDig (t q)) (n - p) p
def tEndL (t : Nat → Nat) (n p : Nat) : Nat := zrun (fun q => tLet (t q)) (n - p) p
theorem tSkip_le {t : Nat → Nat} {n p : Nat} (h : p ≤ n) : p ≤ tSkip t n p ∧ tSkip t n p ≤ n := by
  have := zrun_le (f := fun q => decide (t q = 32)) (n - p) p
  unfold tSkip; omega
theorem tEndD_le {t : Nat → Nat} {n p : Nat} (h : p ≤ n) : p ≤ tEndD t n p ∧ tEndD t n p ≤ n := by
  have := zrun_le (f := fun q => tDig (t q)) (n - p) p
  unfold tEndD; omega
theorem tEndL_le {t : Nat → Nat} {n p : Nat} (h : p ≤ n) : p ≤ tEndL t n p ∧ tEndL t n p ≤ n := by
  have := zrun_le (f := fun q => tLet (t q)) (n - p) p
  unfold tEndL; omega
def tVal (t : Nat → Nat) (p : Nat) : Nat → Nat
  | 0 => 0
  | k + 1 => 10 * tVal t p k + (t (p + k) - 48)
/-- letters as a number, with no end and as the class keeps it -/
def tNam (t : Nat → Nat) (p : Nat) : Nat → Nat
  | 0 => 0
  | k + 1 => 27 * tNam t p k + (t (p + k) - 96)
def tNm (t : Nat → Nat) (p : Nat) : Nat → Int32
  | 0 => 0
  | k + 1 => 27 * tNm t p k + (nI (t (p + k)) - 97 + 1)
def tKind (t : Nat → Nat) (n p : Nat) : Nat := if n ≤ p then 0 else if tDig (t p) = true then 1 else if tLet (t p) = true then 2 else if t p = 59 then 3 else 4
def tEnd (t : Nat → Nat) (n p : Nat) : Nat := if n ≤ p then p else if tDig (t p) = true then tEndD t n p else if tLet (t p) = true then tEndL t n p else p + 1
def tNext (t : Nat → Nat) (n p : Nat) : Nat := tSkip t n (tEnd t n p)
theorem tEnd_le {t : Nat → Nat} {n p : Nat} (h : p ≤ n) : tEnd t n p ≤ n ∧ p ≤ tEnd t n p := by
  have h1 := tEndD_le (t := t) h
  have h2 := tEndL_le (t := t) h
  unfold tEnd
  split
  · omega
  · split
    · omega
    · split <;> omega
theorem tEnd_gt {t : Nat → Nat} {n p : Nat} (h : p < n) : p < tEnd t n p := by
  unfold tEnd
  rw [if_neg (by omega)]
  split
  · rename_i e
    unfold tEndD
    rw [zrun_go h e]
    have := zrun_le (f := fun q => tDig (t q)) (n - (p + 1)) (p + 1)
    omega
  · split
    · rename_i e
      unfold tEndL
      rw [zrun_go h e]
      have := zrun_le (f := fun q => tLet (t q)) (n - (p + 1)) (p + 1)
      omega
    · omega
theorem tNext_le {t : Nat → Nat} {n p : Nat} (h : p ≤ n) : tNext t n p ≤ n ∧ p ≤ tNext t n p := by
  have h1 := tEnd_le (t := t) h
  have h2 := tSkip_le (t := t) h1.1
  unfold tNext; omega
theorem tNext_gt {t : Nat → Nat} {n p : Nat} (h : p < n) : p < tNext t n p := by
  have h1 := tEnd_gt (t := t) h
  have h3 := tEnd_le (t := t) (Nat.le_of_lt h)
  have h2 := tSkip_le (t := t) h3.1
  unfold tNext; omega
theorem tDig_iff {v : Nat} : tDig v = true ↔ 48 ≤ v ∧ v ≤ 57 := decide_eq_true_iff
theorem tLet_iff {v : Nat} : tLet v = true ↔ 97 ≤ v ∧ v ≤ 122 := decide_eq_true_iff
/-- what the class's tests see -/
theorem zsg_all : ∀ v, v < 256 → (zsg v = 32 ↔ v = 32) ∧ (zsg v = 59 ↔ v = 59) ∧ ((¬ zsg v < 48 ∧ ¬ 57 < zsg v) ↔ tDig v = true) ∧ ((¬ zsg v < 97 ∧ ¬ 122 < zsg v) ↔ tLet v = true) ∧ zsg v = (nI v).toInt8.toInt32 ∧ (zsg v).toInt8.toInt32 = zsg v := by decide +kernel
/-- the class's Input at a holds the bytes t, f of them -/
def zBy (I : zI) (a : Nat) (t : Nat → Nat) (f : Nat) : Prop := I a 1 = nI f ∧ f ≤ 500 ∧ (∀ k, t k < 256) ∧ ∀ k, k < f → I (a + 1) k = zsg (t k)
theorem zBy.put {I : zI} {a f j : Nat} {x : Int32} {t : Nat → Nat} (h : zBy I a t f) (hj : 1 ≠ j) : zBy (zput I a j x) a t f := ⟨by rw [zput_nj hj]; exact h.1, h.2.1, h.2.2.1, fun k hk => by rw [zput_ne (by omega)]; exact h.2.2.2 k hk⟩
theorem zBy.ag {I I' : zI} {a f lo n : Nat} {t : Nat → Nat} (h : zBy I a t f) (hg : zag I I' lo n) (h2 : a + 2 ≤ lo ∨ lo + n ≤ a) : zBy I' a t f := ⟨by rw [hg a (by omega)]; exact h.1, h.2.1, h.2.2.1, fun k hk => by rw [hg (a + 1) (by omega)]; exact h.2.2.2 k hk⟩
/-- it stands at the token which begins at p -/
def zTok (I : zI) (a : Nat) (t : Nat → Nat) (n p : Nat) : Prop :=
  p ≤ n ∧ I a 2 = nI n ∧ I a 5 = nI p ∧ I a 4 = nI (tKind t n p) ∧ I a 3 = nI (tEnd t n p) ∧ (tKind t n p = 1 → I a 6 = nI (min (tVal t p (tEndD t n p - p)) 1000)) ∧ (tKind t n p = 2 → I a 7 = nI (tEndL t n p - p) ∧ I a 8 = tNm t p (tEndL t n p - p))
theorem zTok.ag {I I' : zI} {a n p lo m : Nat} {t : Nat → Nat} (h : zTok I a t n p) (hg : zag I I' lo m) (h2 : a + 1 ≤ lo ∨ lo + m ≤ a) : zTok I' a t n p := by
  unfold zTok
  rw [hg a (by omega)]; exact h
theorem zTok.le {I : zI} {a n p : Nat} {t : Nat → Nat} (h : zTok I a t n p) : p ≤ n := h.1
/-- base 27 -/
theorem tNam_lt {t : Nat → Nat} {p : Nat} : ∀ k, (∀ i, i < k → tLet (t (p + i)) = true) → tNam t p k < 27 ^ k
  | 0, _ => Nat.one_pos
  | k + 1, h => by
    have h1 := tNam_lt k (fun i hi => h i (by omega))
    have h2 := tLet_iff.mp (h k (by omega))
    rw [tNam, Nat.pow_succ]; omega
theorem nI_mul (a b : Nat) : nI a * nI b = nI (a * b) := (Int32.ofNat_mul a b).symm
theorem tNm_eq {t : Nat → Nat} {p : Nat} : ∀ k, (∀ i, i < k → tLet (t (p + i)) = true) → tNm t p k = nI (tNam t p k)
  | 0, _ => rfl
  | k + 1, h => by
    have h1 := tNm_eq k (fun i hi => h i (by omega))
    have h2 := tLet_iff.mp (h k (by omega))
    rw [tNm, tNam, h1, show nI (t (p + k)) - 97 = nI (t (p + k) - 97) from pk_sub (a := t (p + k)) (b := 97) (by omega), nI_1, show t (p + k) - 97 + 1 = t (p + k) - 96 by omega]
    rw [show (27 : Int32) = nI 27 from rfl, nI_mul, nI_add]
theorem tNam_inj {t u : Nat → Nat} {p q : Nat} : ∀ k, (∀ i, i < k → tLet (t (p + i)) = true) → (∀ i, i < k → tLet (u (q + i)) = true) → tNam t p k = tNam u q k → ∀ i, i < k → t (p + i) = u (q + i)
  | 0, _, _, _, i, hi => absurd hi (Nat.not_lt_zero _)
  | k + 1, h, g, e, i, hi => by
    have h2 := tLet_iff.mp (h k (by omega))
    have g2 := tLet_iff.mp (g k (by omega))
    rw [tNam, tNam] at e
    by_cases q9 : i = k
    · subst q9; omega
    · exact tNam_inj k (fun i hi => h i (by omega)) (fun i hi => g i (by omega)) (by omega) i (by omega)
theorem tNm_iff {t u : Nat → Nat} {p q k : Nat} (hk : k ≤ 6) (h : ∀ i, i < k → tLet (t (p + i)) = true) (g : ∀ i, i < k → tLet (u (q + i)) = true) : tNm t p k = tNm u q k ↔ ∀ i, i < k → t (p + i) = u (q + i) := by
  have h1 := tNam_lt k h
  have h2 := tNam_lt k g
  have h3 : 27 ^ k ≤ 27 ^ 6 := Nat.pow_le_pow_right (by decide) hk
  have h4 : 27 ^ 6 = 387420489 := by decide
  rw [tNm_eq k h, tNm_eq k g, nI_eq (by omega) (by omega)]
  constructor
  · exact tNam_inj k h g
  · intro e
    have : ∀ j, j ≤ k → tNam t p j = tNam u q j := by
      intro j
      induction j with
      | zero => intro _; rfl
      | succ j ih => intro hj; rw [tNam, tNam, ih (by omega), e j (by omega)]
    exact this k (Nat.le_refl _)
theorem tLet_run {t : Nat → Nat} {n p : Nat} {i : Nat} (hi : i < tEndL t n p - p) : tLet (t (p + i)) = true := zrun_all (f := fun q => tLet (t q)) (n - p) p (p + i) (by omega) (by unfold tEndL at hi; omega)
theorem tDig_run {t : Nat → Nat} {n p : Nat} {i : Nat} (hi : i < tEndD t n p - p) : tDig (t (p + i)) = true := zrun_all (f := fun q => tDig (t q)) (n - p) p (p + i) (by omega) (by unfold tEndD at hi; omega)
/-- the word at p is w -/
def tIs (t : Nat → Nat) (n p : Nat) (w : List Nat) : Prop := p < n ∧ tLet (t p) = true ∧ tEndL t n p - p = w.length ∧ ∀ i, i < w.length → t (p + i) = w.getD i 0
