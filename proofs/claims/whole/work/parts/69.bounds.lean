/-! ===== how many passages a row can tell of ===== -/
def zPb (b : Nat) (S : zS) : Prop := ∀ c : Nat, ∃ k : Nat, k ≤ b ∧ sC S c 3 = nI k
theorem zPb.le {a b : Nat} {S : zS} (h : zPb a S) (hab : a ≤ b) : zPb b S := fun c => by
  obtain ⟨k, k1, k2⟩ := h c
  exact ⟨k, by omega, k2⟩
theorem zPb.up {a b : Nat} {S T : zS} (h : zPb a S) (g : zUp S T b) : zPb (a + b) T := fun c => by
  obtain ⟨k, k1, k2⟩ := h c
  obtain ⟨d, d1, d2⟩ := g c k k2
  exact ⟨k + d, by omega, d2⟩
theorem zPb_blank : zPb 0 zBlank := fun c => ⟨0, Nat.le_refl _, rfl⟩
theorem zUp_tC {S : zS} {c j : Nat} {v : Int32} (h : j ≠ 3) : zUp S (tC S c j v) 0 := zUp.rf (fun c9 => by
  rw [tC_C, if_neg (fun z => h z.2.symm)])
theorem zUp_shut {S : zS} : ∀ n, zUp S (qShut S n) 0
  | 0 => zUp.rf (fun _ => rfl)
  | n + 1 => zUp_shut n
theorem zUp_key {S : zS} {k : Nat} : zUp S (qKey S k) 0 := by
  have h1 : zUp S (qKeyed S k) 0 := zUp.rf (fun _ => rfl)
  unfold qKey
  split
  · exact (h1.tr (zUp_shut 6)).le (by omega)
  · exact h1
theorem pNum_some {t : Nat → Nat} {n p lo hi v : Nat} (h : pNum t n p lo hi = .inr v) : lo ≤ v ∧ v < hi := by
  unfold pNum at h
  split at h
  · split at h
    · rename_i h2; cases h; exact h2
    · cases h
  · cases h
/-- right, and no further on than b -/
def zOn (S T : zS) (b : Nat) : Prop := zWf T ∧ zUp S T b
theorem zOn_listed {t : Nat → Nat} {n p : Nat} {S : zS} {q : Nat × zS} (hW : zWf S) (h : pListed t n p S = .inr q) : zOn S q.2 0 := by
  unfold pListed at h
  split at h
  · cases h
  · rename_i c9 hk
    cases h
    unfold pKnown at hk
    split at hk
    · cases hk
    · split at hk
      · rename_i hf
        cases hk
        exact ⟨zWf_list hW (pFind_some hf).1 (Or.inr rfl), zUp_tC (by decide)⟩
      · cases hk
theorem zOn_more {t : Nat → Nat} {n : Nat} : ∀ (k p : Nat) (S : zS) (q : Nat × zS), zWf S → pMore t n k p S = .inr q → zOn S q.2 0
  | 0, p, S, q, hW, h => by cases h; exact ⟨hW, zUp.rf (fun _ => rfl)⟩
  | k + 1, p, S, q, hW, h => by
    unfold pMore at h
    split at h
    · split at h
      · cases h
      · rename_i q1 hq
        have h1 := zOn_listed hW hq
        have h2 := zOn_more k _ _ q h1.1 h
        exact ⟨h2.1, h1.2.tr h2.2⟩
    · cases h; exact ⟨hW, zUp.rf (fun _ => rfl)⟩
theorem zOn_wait4 {S : zS} {g s w p2 p4 : Nat} {q : Nat × zS} (hW : zWf S) (hg : g < zng S) (hw : w ≤ znc S) (h : pWait4 S g s w p2 p4 = .inr q) : zOn S q.2 0 := by
  unfold pWait4 at h
  split at h
  · rename_i h0
    cases h
    exact ⟨zWf_join hW hg hw h0, zUp.rf (fun _ => rfl)⟩
  · cases h
theorem zOn_wait3 {t : Nat → Nat} {n p2 p3 g s : Nat} {S : zS} {q : Nat × zS} (hW : zWf S) (hg : g < zng S) (h : pWait3 t n p2 p3 g s S = .inr q) : zOn S q.2 0 := by
  unfold pWait3 at h
  split at h
  · split at h
    · cases h
    · rename_i c9 hk
      refine zOn_wait4 hW hg ?_ h
      unfold pKnown at hk
      split at hk
      · cases hk
      · split at hk
        · rename_i hf
          cases hk
          exact (pFind_some hf).1
        · cases hk
  · exact zOn_wait4 hW hg (Nat.zero_le _) h
theorem zOn_body {t : Nat → Nat} {n p : Nat} {S : zS} {q : Nat × zS} (hW : zWf S) (h : pBody t n p S = .inr q) : zOn S q.2 2400 := by
  unfold pBody at h
  split at h
  · unfold pGate at h
    split at h
    · cases h
    · rename_i h6
      have h6 : zng S < 6 := by have := hW.ng.1; omega
      have hg : ∀ m : Int32, (m = 0 ∨ m = 1 ∨ m = 2) → zOn S (qAddGate S m) 2400 := fun m hm => ⟨zWf_addGate hW h6 hm, (zUp.rf (fun _ => rfl)).le (Nat.zero_le _)⟩
      split at h
      · cases h; exact hg 2 (by decide)
      · split at h
        · cases h; exact hg 1 (by decide)
        · split at h
          · cases h; exact hg 0 (by decide)
          · cases h
  · split at h
    · unfold pCard at h
      split at h
      · cases h
      · rename_i h12
        have h12 : znc S < 12 := by have := hW.nc.1; omega
        unfold pCard1 at h
        split at h
        · cases h
        · rename_i hnm
          split at h
          · cases h
          · unfold pCard2 at h
            split at h
            · cases h
            · cases h
              obtain ⟨a1, a2⟩ := pName_none hnm
              refine ⟨zWf_addCard hW h12 (tNmF_ok a1 a2), (zUp.rf (fun c9 => ?_)).le (Nat.zero_le _)⟩
              show zu2 S.2.2.2.1 (znc S) 0 _ c9 3 = S.2.2.2.1 c9 3
              exact zu2_ne (fun z => absurd z.2 (by decide))
    · split at h
      · unfold pList at h
        split at h
        · cases h
        · rename_i q1 hq
          have h1 := zOn_listed hW hq
          have h2 := zOn_more _ _ _ _ h1.1 h
          exact ⟨h2.1, (h1.2.tr h2.2).le (by omega)⟩
      · split at h
        · unfold pWait at h
          split at h
          · cases h
          · rename_i g9 hg
            have hg := (pNum_some hg).2
            unfold pWait2 at h
            split at h
            · have h1 := zOn_wait3 hW hg h
              exact ⟨h1.1, h1.2.le (by omega)⟩
            · split at h
              · have h1 := zOn_wait3 hW hg h
                exact ⟨h1.1, h1.2.le (by omega)⟩
              · cases h
        · split at h
          · unfold pTick at h
            split at h
            · cases h
            · rename_i v9 hv
              have hv := (pNum_some hv).2
              cases h
              exact ⟨zWf_ticks hW _, (zUp_ticks hW _).le (by omega)⟩
          · split at h
            · unfold pKey at h
              split at h
              · cases h
              · rename_i v9 hv
                have hv := (pNum_some hv).2
                cases h
                exact ⟨zWf_key hW hv, zUp_key.le (by omega)⟩
            · cases h
theorem zOn_stmt {t : Nat → Nat} {n p : Nat} {S : zS} {q : Nat × zS} (hW : zWf S) (h : pStmt t n p S = .inr q) : zOn S q.2 2400 := by
  unfold pStmt at h
  split at h
  · cases h
  · rename_i q1 hq
    unfold pSemi at h
    split at h
    · cases h
      have h9 := zOn_body hW hq
      exact h9
    · cases h
theorem zOn_all {t : Nat → Nat} {n : Nat} : ∀ (k p : Nat) (S : zS) (q : Nat × zS), zWf S → pAll t n k p S = .inr q → zOn S q.2 (2400 * k)
  | 0, p, S, q, hW, h => by cases h; exact ⟨hW, zUp.rf (fun _ => rfl)⟩
  | k + 1, p, S, q, hW, h => by
    unfold pAll at h
    split at h
    · split at h
      · cases h
      · rename_i q1 hq
        have h1 := zOn_stmt hW hq
        have h2 := zOn_all k _ _ q h1.1 h
        exact ⟨h2.1, (h1.2.tr h2.2).le (by omega)⟩
    · cases h; exact ⟨hW, (zUp.rf (fun _ => rfl)).le (Nat.zero_le _)⟩
theorem zPb_load {t : Nat → Nat} {n : Nat} {q : Nat × zS} (hn : n ≤ 500) (h : pLoad t n = .inr q) : zPb 1200000 q.2 := by
  unfold pLoad at h
  split at h
  · cases h
  · rename_i q1 hq
    have h1 : zOn zBlank q1.2 0 := by
      unfold pHead at hq
      split at hq
      · split at hq
        · cases hq
        · rename_i a9 ha
          have ha := pNum_some ha
          unfold pHead2 at hq
          split at hq
          · cases hq
          · rename_i b9 hb
            have hb := pNum_some hb
            unfold pSemi at hq
            split at hq
            · cases hq
              exact ⟨zWf_hf zWf_blank (by omega) (by omega), zUp.rf (fun _ => rfl)⟩
            · cases hq
      · cases hq
    have h2 := zOn_all _ _ _ _ h1.1 h
    exact ((zPb_blank.up h1.2).up h2.2).le (by omega)
/-- what the changes of a row do to the bound -/
theorem zPb_if {a b : Nat} {S T : zS} {P : Prop} [Decidable P] (h : zPb a S) (g : zPb b T) (hab : a ≤ b) : zPb b (if P then T else S) := by
  split
  · exact g
  · exact h.le hab
theorem zPb_push {a b : Nat} {S : zS} {U : List zS} {P : Prop} [Decidable P] (h : zPb a S) (hU : ∀ u ∈ U, zPb a u) (hab : a ≤ b) : ∀ u ∈ (if P then qPush S U else U), zPb b u := by
  intro u hu
  split at hu
  · unfold qPush at hu
    rcases List.mem_cons.mp (List.mem_of_mem_take hu) with rfl | hu
    · exact h.le hab
    · exact (hU u hu).le hab
  · exact (hU u hu).le hab
theorem zPb_sTick {a : Nat} {S : zS} {v : Int32} (hW : zWf S) (h : zPb a S) : zPb (a + 2400) (sTick S v) := by
  unfold sTick
  split
  · exact h.le (by omega)
  · rename_i k hk
    have := vTick_some hk
    exact (h.up (zUp_ticks hW k)).le (by omega)
theorem zPb_sKey {a : Nat} {S : zS} {v : Int32} (h : zPb a S) : zPb (a + 2400) (sKey S v) := by
  unfold sKey
  split
  · exact h.le (by omega)
  · exact (h.up zUp_key).le (by omega)
theorem zPb_sList {a : Nat} {S : zS} {u b : Int32} (h : zPb a S) : zPb (a + 2400) (sList S u b) := by
  unfold sList
  split
  · exact h.le (by omega)
  · exact (h.up (zUp_tC (by decide))).le (by omega)
theorem zPb_sCharge {a : Nat} {S : zS} {u v : Int32} (h : zPb a S) : zPb (a + 2400) (sCharge S u v) := by
  unfold sCharge
  split
  · exact h.le (by omega)
  · split
    · exact h.le (by omega)
    · exact (h.up (zUp_tC (by decide))).le (by omega)
theorem zPb_sMode {a : Nat} {S : zS} {u v : Int32} (h : zPb a S) : zPb (a + 2400) (sMode S u v) := by
  unfold sMode
  split
  · exact h.le (by omega)
  · split
    · exact h.le (by omega)
    · exact (h.up (zUp.rf (fun _ => rfl))).le (by omega)
theorem zPb_sJoin {a : Nat} {S : zS} {u v v3 : Int32} (h : zPb a S) : zPb (a + 2400) (sJoin S u v v3) := by
  unfold sJoin
  split
  · exact h.le (by omega)
  · split
    · exact h.le (by omega)
    · split
      · exact h.le (by omega)
      · unfold sJoin1
        split <;> exact (h.up (zUp.rf (fun _ => rfl))).le (by omega)
theorem zPb_sLeave {a : Nat} {S : zS} {u v v3 : Int32} (h : zPb a S) : zPb (a + 2400) (sLeave S u v v3) := by
  unfold sLeave
  split
  · exact h.le (by omega)
  · split
    · exact h.le (by omega)
    · split
      · exact h.le (by omega)
      · exact (h.up (zUp.rf (fun _ => rfl))).le (by omega)
theorem zPb_sUndo {a : Nat} {S : zS} {U : List zS} (h : zPb a S) (hU : ∀ u ∈ U, zPb a u) : zPb (a + 2400) (sUndo S U) := by
  unfold sUndo
  split
  · exact h.le (by omega)
  · exact (hU _ List.mem_cons_self).le (by omega)
theorem zPb_sLoad {a f : Nat} {t : Nat → Nat} {S : zS} {v : Int32} (hf : f ≤ 500) (ha : 1200000 ≤ a) (h : zPb a S) : zPb (a + 2400) (sLoad t f v S) := by
  unfold sLoad
  split
  · exact h.le (by omega)
  · rename_i n9 hn
    have := vIdx_some hn
    split
    · rename_i q hq
      exact (zPb_load (by omega) hq).le (by omega)
    · exact h.le (by omega)
theorem zPb_uLoad {a f : Nat} {t : Nat → Nat} {S : zS} {U : List zS} {v : Int32} (h : zPb a S) (hU : ∀ u ∈ U, zPb a u) : ∀ u ∈ uLoad t f v S U, zPb (a + 2400) u := by
  have h1 : ∀ u ∈ qPush S U, zPb (a + 2400) u := fun u hu => by
    have := zPb_push (P := True) (b := a + 2400) h hU (by omega) u (by rw [if_pos trivial]; exact hu)
    exact this
  intro u hu
  unfold uLoad at hu
  split at hu
  · exact (hU u hu).le (by omega)
  · split at hu
    · exact h1 u hu
    · exact (hU u hu).le (by omega)
