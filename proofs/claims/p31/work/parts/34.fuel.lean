/-! ===== a setup text: progress, and what the class keeps of it ===== -/
theorem tKind_0 {t : Nat → Nat} {n p : Nat} : tKind t n p = 0 ↔ n ≤ p := by
  unfold tKind
  constructor
  · intro h
    split at h
    · assumption
    · split at h
      · cases h
      · split at h
        · cases h
        · split at h <;> cases h
  · intro h; rw [if_pos h]
theorem tKind_lt {t : Nat → Nat} {n p : Nat} (h : tKind t n p ≠ 0) : p < n := by
  rcases Nat.lt_or_ge p n with q | q
  · exact q
  · exact absurd (tKind_0.mpr q) h
theorem tKind_2 {t : Nat → Nat} {n p : Nat} : tKind t n p = 2 ↔ p < n ∧ tLet (t p) = true := by
  unfold tKind
  constructor
  · intro hk
    split at hk
    · cases hk
    · split at hk
      · cases hk
      · split at hk
        · exact ⟨by omega, by assumption⟩
        · split at hk <;> cases hk
  · rintro ⟨h1, h2⟩
    rw [if_neg (by omega), if_neg (fun z => by have := tDig_iff.mp z; have := tLet_iff.mp h2; omega), if_pos h2]
theorem tKind_1 {t : Nat → Nat} {n p : Nat} : tKind t n p = 1 ↔ p < n ∧ tDig (t p) = true := by
  unfold tKind
  constructor
  · intro hk
    split at hk
    · cases hk
    · split at hk
      · exact ⟨by omega, by assumption⟩
      · split at hk
        · cases hk
        · split at hk <;> cases hk
  · rintro ⟨h1, h2⟩
    rw [if_neg (by omega), if_pos h2]
theorem tKind_3 {t : Nat → Nat} {n p : Nat} : tKind t n p = 3 ↔ p < n ∧ t p = 59 := by
  unfold tKind
  constructor
  · intro hk
    split at hk
    · cases hk
    · split at hk
      · cases hk
      · split at hk
        · cases hk
        · split at hk
          · exact ⟨by omega, by assumption⟩
          · cases hk
  · rintro ⟨h1, h2⟩
    rw [if_neg (by omega), if_neg (fun z => by have := tDig_iff.mp z; omega), if_neg (fun z => by have := tLet_iff.mp z; omega), if_pos h2]
theorem tEndL_1 {t : Nat → Nat} {n p : Nat} (h : tKind t n p = 2) : 1 ≤ tEndL t n p - p := by
  obtain ⟨h1, h2⟩ := tKind_2.mp h
  have := tEnd_gt (t := t) h1
  unfold tEnd at this
  rw [if_neg (by omega), if_neg (fun z => by have := tDig_iff.mp z; have := tLet_iff.mp h2; omega), if_pos h2] at this
  omega
theorem pMore_fuel {t : Nat → Nat} {n : Nat} : ∀ (k p : Nat) (S : zS), n - p ≤ k → p ≤ n → pMore t n k p S = pMore t n (n - p) p S
  | 0, p, S, h, _ => by rw [show n - p = 0 by omega]
  | k + 1, p, S, h, hp => by
    by_cases hk : tKind t n p = 2
    · have hlt := (tKind_2.mp hk).1
      obtain ⟨j, hj⟩ : ∃ j, n - p = j + 1 := ⟨n - p - 1, by omega⟩
      rw [hj, pMore, pMore, if_pos hk, if_pos hk]
      unfold pListed
      cases pKnown t n p S with
      | inl e => rfl
      | inr c =>
        have g1 := tNext_gt (t := t) hlt
        have g2 := tNext_le (t := t) hp
        show pMore t n k (tNext t n p) _ = pMore t n j (tNext t n p) _
        rw [pMore_fuel k _ _ (by omega) g2.1, pMore_fuel j _ _ (by omega) g2.1]
    · cases hj : n - p with
      | zero => exact (show pMore t n (k + 1) p S = .inr (p, S) by rw [pMore, if_neg hk])
      | succ j => rw [pMore, pMore, if_neg hk, if_neg hk]
theorem pMore_step {t : Nat → Nat} {n p : Nat} {S : zS} (hp : p ≤ n) (hk : tKind t n p = 2) : pMore t n (n - p) p S = (match pListed t n p S with | .inl e => .inl e | .inr q => pMore t n (n - q.1) q.1 q.2) := by
  have hlt := (tKind_2.mp hk).1
  obtain ⟨j, hj⟩ : ∃ j, n - p = j + 1 := ⟨n - p - 1, by omega⟩
  rw [hj, pMore, if_pos hk]
  unfold pListed
  cases pKnown t n p S with
  | inl e => rfl
  | inr c =>
    have g1 := tNext_gt (t := t) hlt
    have g2 := tNext_le (t := t) hp
    exact pMore_fuel j _ _ (by omega) g2.1
theorem pMore_stop {t : Nat → Nat} {n p : Nat} {S : zS} (hk : ¬ tKind t n p = 2) : pMore t n (n - p) p S = .inr (p, S) := by
  cases n - p with
  | zero => rfl
  | succ j => rw [pMore, if_neg hk]
theorem pMore_ge {t : Nat → Nat} {n : Nat} : ∀ (k p : Nat) (S : zS) (q : Nat × zS), p ≤ n → pMore t n k p S = .inr q → p ≤ q.1 ∧ q.1 ≤ n
  | 0, p, S, q, hp, h => by cases h; exact ⟨Nat.le_refl _, hp⟩
  | k + 1, p, S, q, hp, h => by
    rw [pMore] at h
    split at h
    · unfold pListed at h
      have g2 := tNext_le (t := t) hp
      cases e : pKnown t n p S with
      | inl e9 => rw [e] at h; cases h
      | inr c =>
        rw [e] at h
        have := pMore_ge k _ _ q g2.1 h
        have h9 : tNext t n p ≤ q.1 := this.1
        omega
    · cases h; exact ⟨Nat.le_refl _, hp⟩
theorem pNum_gt {t : Nat → Nat} {n p lo hi v : Nat} (h : pNum t n p lo hi = .inr v) : p < n ∧ lo ≤ v ∧ v < hi := by
  unfold pNum at h
  split at h
  · rename_i hk
    split at h
    · cases h; exact ⟨tKind_lt (by rw [hk]; decide), by assumption⟩
    · cases h
  · cases h
theorem pSemi_gt {t : Nat → Nat} {n p : Nat} {S : zS} {q : Nat × zS} (hp : p ≤ n) (h : pSemi t n p S = .inr q) : p < q.1 ∧ q.1 ≤ n := by
  unfold pSemi at h
  split at h
  · rename_i hk
    cases h
    exact ⟨tNext_gt (tKind_lt (by rw [hk]; decide)), (tNext_le hp).1⟩
  · cases h
theorem pBody_ge {t : Nat → Nat} {n p : Nat} {S : zS} {q : Nat × zS} (hp : p ≤ n) (h : pBody t n p S = .inr q) : p ≤ q.1 ∧ q.1 ≤ n := by
  have g1 := tNext_le (t := t) hp
  have g2 := tNext_le (t := t) g1.1
  have g3 := tNext_le (t := t) g2.1
  have g4 := tNext_le (t := t) g3.1
  have w4 : ∀ g s w p2 p4, p ≤ p4 → p4 ≤ n → pWait4 S g s w p2 p4 = .inr q → p ≤ q.1 ∧ q.1 ≤ n := by
    intro g s w p2 p4 a1 a2 h
    unfold pWait4 at h
    split at h
    · cases h; exact ⟨a1, a2⟩
    · cases h
  have w3 : ∀ g s p2 p3, p ≤ p3 → p3 ≤ n → pWait3 t n p2 p3 g s S = .inr q → p ≤ q.1 ∧ q.1 ≤ n := by
    intro g s p2 p3 a1 a2 h
    have b := tNext_le (t := t) a2
    unfold pWait3 at h
    split at h
    · cases e : pKnown t n p3 S with
      | inl e9 => rw [e] at h; cases h
      | inr c => rw [e] at h; exact w4 _ _ _ _ _ (by omega) b.1 h
    · exact w4 _ _ _ _ _ a1 a2 h
  unfold pBody at h
  split at h
  · unfold pGate at h
    split at h
    · cases h
    · split at h
      · cases h; exact ⟨by show p ≤ tNext t n (tNext t n p); omega, g2.1⟩
      · split at h
        · cases h; exact ⟨by show p ≤ tNext t n (tNext t n p); omega, g2.1⟩
        · split at h
          · cases h; exact ⟨by show p ≤ tNext t n (tNext t n p); omega, g2.1⟩
          · cases h
  · split at h
    · unfold pCard at h
      split at h
      · cases h
      · unfold pCard1 at h
        cases e1 : pName t n (tNext t n p) with
        | some e9 => rw [e1] at h; cases h
        | none =>
          rw [e1] at h
          cases e2 : pFind S (tNmF t n (tNext t n p)) with
          | some c => simp only [e2] at h; cases h
          | none =>
            simp only [e2] at h
            unfold pCard2 at h
            cases e3 : pNum t n (tNext t n (tNext t n p)) 0 100 with
            | inl e9 => rw [e3] at h; cases h
            | inr v => rw [e3] at h; cases h; exact ⟨by show p ≤ tNext t n (tNext t n (tNext t n p)); omega, g3.1⟩
    · split at h
      · unfold pList at h
        cases e1 : pListed t n (tNext t n p) S with
        | inl e9 => rw [e1] at h; cases h
        | inr u =>
          rw [e1] at h
          unfold pListed at e1
          cases e2 : pKnown t n (tNext t n p) S with
          | inl e9 => rw [e2] at e1; cases e1
          | inr c =>
            rw [e2] at e1
            cases e1
            have := pMore_ge _ _ _ q g2.1 h
            have h9 : tNext t n (tNext t n p) ≤ q.1 := this.1
            omega
      · split at h
        · unfold pWait at h
          cases e1 : pNum t n (tNext t n p) 0 (zng S) with
          | inl e9 => rw [e1] at h; cases h
          | inr g =>
            rw [e1] at h
            change pWait2 t n (tNext t n (tNext t n p)) g S = .inr q at h
            unfold pWait2 at h
            split at h
            · exact w3 _ _ _ _ (by omega) g3.1 h
            · split at h
              · exact w3 _ _ _ _ (by omega) g3.1 h
              · cases h
        · split at h
          · unfold pTick at h
            cases e1 : pNum t n (tNext t n p) 1 100 with
            | inl e9 => rw [e1] at h; cases h
            | inr v => rw [e1] at h; cases h; exact ⟨by show p ≤ tNext t n (tNext t n p); omega, g2.1⟩
          · split at h
            · unfold pKey at h
              cases e1 : pNum t n (tNext t n p) 0 3 with
              | inl e9 => rw [e1] at h; cases h
              | inr v => rw [e1] at h; cases h; exact ⟨by show p ≤ tNext t n (tNext t n p); omega, g2.1⟩
            · cases h
theorem pStmt_gt {t : Nat → Nat} {n p : Nat} {S : zS} {q : Nat × zS} (hp : p ≤ n) (h : pStmt t n p S = .inr q) : p < q.1 ∧ q.1 ≤ n := by
  unfold pStmt at h
  cases e : pBody t n p S with
  | inl e9 => rw [e] at h; cases h
  | inr u =>
    rw [e] at h
    have h1 := pBody_ge hp e
    have h2 := pSemi_gt h1.2 h
    omega
theorem pAll_fuel {t : Nat → Nat} {n : Nat} : ∀ (k p : Nat) (S : zS), n - p ≤ k → p ≤ n → pAll t n k p S = pAll t n (n - p) p S
  | 0, p, S, h, _ => by rw [show n - p = 0 by omega]
  | k + 1, p, S, h, hp => by
    by_cases hk : p < n
    · obtain ⟨j, hj⟩ : ∃ j, n - p = j + 1 := ⟨n - p - 1, by omega⟩
      rw [hj, pAll, pAll, if_pos hk, if_pos hk]
      cases e : pStmt t n p S with
      | inl e => rfl
      | inr q =>
        have g := pStmt_gt hp e
        show pAll t n k q.1 _ = pAll t n j q.1 _
        rw [pAll_fuel k _ _ (by omega) g.2, pAll_fuel j _ _ (by omega) g.2]
    · rw [pAll, if_neg hk, show n - p = 0 by omega]; rfl
theorem pAll_step {t : Nat → Nat} {n p : Nat} {S : zS} (hp : p < n) : pAll t n (n - p) p S = (match pStmt t n p S with | .inl e => .inl e | .inr q => pAll t n (n - q.1) q.1 q.2) := by
  obtain ⟨j, hj⟩ : ∃ j, n - p = j + 1 := ⟨n - p - 1, by omega⟩
  rw [hj, pAll, if_pos hp]
  cases e : pStmt t n p S with
  | inl e => rfl
  | inr q =>
    have g := pStmt_gt (Nat.le_of_lt hp) e
    exact pAll_fuel j _ _ (by omega) g.2
theorem pAll_stop {t : Nat → Nat} {n p : Nat} {S : zS} (hp : n ≤ p) : pAll t n (n - p) p S = .inr (p, S) := by
  rw [show n - p = 0 by omega]; rfl
/-- what a setup text may change of the class: the Input at x + 1, the reader at x + 3, the row at x + 94 -/
def zfr (I I' : zI) (x : Nat) : Prop := ∀ q : Nat, q ≠ x + 1 → q ≠ x + 3 → (q < x + 94 ∨ x + 139 ≤ q) → I' q = I q
theorem zfr.rf {I : zI} {x : Nat} : zfr I I x := fun _ _ _ _ => rfl
theorem zfr.ag {I I' I2 : zI} {x lo n : Nat} (h : zfr I I' x) (g : zag I' I2 lo n) (ho : (lo = x + 1 ∧ n ≤ 1) ∨ (lo = x + 3 ∧ n ≤ 1) ∨ (x + 94 ≤ lo ∧ lo + n ≤ x + 139)) : zfr I I2 x := fun q h1 h2 h3 => (g q (by omega)).trans (h q h1 h2 h3)
theorem zfr.tr {I I' I2 : zI} {x : Nat} (h : zfr I I' x) (g : zfr I' I2 x) : zfr I I2 x := fun q h1 h2 h3 => (g q h1 h2 h3).trans (h q h1 h2 h3)
def zPs (I : zI) (x : Nat) (t : Nat → Nat) (f n p : Nat) (S : zS) : Prop := zBy I (x + 1) t f ∧ n ≤ f ∧ zTok I (x + 1) t n p ∧ zRw I (x + 94) S ∧ zWf S
def zEr (I : zI) (x : Nat) (t : Nat → Nat) (f : Nat) (e : Int32 × Nat) : Prop := zBy I (x + 1) t f ∧ I (x + 3) 0 = e.1 ∧ I (x + 3) 1 = nI e.2
