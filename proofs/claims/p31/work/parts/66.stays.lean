/-! ===== what stays: the sums are right, and who waits is served ===== -/
theorem zrg1 (a b c d : Int32) : (a + 1) - b - c - (d + 1) = a - b - c - d := by grind
theorem zrg2 (a b c d : Int32) : a - (b + 1) - c - (d - 1) = a - b - c - d := by grind
theorem zrg3 (a b c d : Int32) : a - b - (c + 1) - (d - 1) = a - b - c - d := by grind
def zKp (S S' : zS) : Prop := qGapE S' = qGapE S ∧ (∀ g : Nat, sG S' g 0 = sG S g 0) ∧ (∀ g s : Nat, sL S' g s ≠ [] → sL S g s ≠ []) ∧ sM S' = sM S
theorem zKp.rf {S : zS} : zKp S S := ⟨rfl, fun _ => rfl, fun _ _ h => h, rfl⟩
theorem zKp.tr {S T V : zS} (h : zKp S T) (g : zKp T V) : zKp S V := ⟨g.1.trans h.1, fun k => (g.2.1 k).trans (h.2.1 k), fun k s z => h.2.2.1 k s (g.2.2.1 k s z), g.2.2.2.trans h.2.2.2⟩
theorem zKp.x {S : zS} {i : Nat} {v : Int32} (h : i ≠ 3 ∧ i ≠ 9 ∧ i ≠ 10 ∧ i ≠ 15) : zKp S (tX S i v) := by
  refine ⟨?_, fun _ => rfl, fun _ _ h => h, rfl⟩
  unfold qGapE
  rw [tX_X, tX_X, tX_X, tX_X, if_neg (by omega), if_neg (by omega), if_neg (by omega), if_neg (by omega)]
theorem zKp.g {S : zS} {g j : Nat} {v : Int32} (h : j ≠ 0) : zKp S (tG S g j v) := ⟨rfl, fun k => by rw [tG_G, if_neg (fun z => h z.2.symm)], fun _ _ h => h, rfl⟩
theorem zKp.c {S : zS} {c j : Nat} {v : Int32} : zKp S (tC S c j v) := ⟨rfl, fun _ => rfl, fun _ _ h => h, rfl⟩
theorem zKp.l {S : zS} {g s : Nat} {w : List Nat} (h : w ≠ [] → sL S g s ≠ []) : zKp S (tL S g s w) := by
  refine ⟨rfl, fun _ => rfl, fun k i z => ?_, rfl⟩
  rw [tL_L] at z
  by_cases q : k = g ∧ i = s
  · obtain ⟨rfl, rfl⟩ := q
    rw [if_pos ⟨rfl, rfl⟩] at z; exact h z
  · rw [if_neg q] at z; exact z
theorem zKp.passed {S : zS} {c s : Nat} : zKp S (qPassed S c s) := by
  unfold qPassed
  split
  · exact (zKp.c.tr zKp.c).tr zKp.c
  · exact zKp.c.tr zKp.c
theorem zgap_x {S T : zS} (h : sX T = sX S) : qGapE T = qGapE S := by unfold qGapE; rw [h]
theorem zKp.gone {S : zS} {w s : Nat} : zKp S (qGone S w s) := by
  refine ⟨?_, fun g => by rw [qGone_G], fun g k z => by rw [qGone_L] at z; exact z, qGone_M⟩
  unfold qGone
  by_cases hs : s = 0
  · rw [if_pos hs]
    have e : sX (if w = 0 then S else qPassed S (w - 1) 0) = sX S := by split; rfl; exact qPassed_X
    unfold qGapE
    rw [tX_X, tX_X, tX_X, tX_X, tX_X, tX_X, tX_X, tX_X, e]
    exact zrg1 _ _ _ _
  · rw [if_neg hs]
    have e : sX (if w = 0 then S else qPassed S (w - 1) 1) = sX S := by split; rfl; exact qPassed_X
    unfold qGapE
    rw [tX_X, tX_X, tX_X, tX_X, tX_X, tX_X, tX_X, tX_X, e]
    exact zrg2 _ _ _ _
theorem zne_erase {w : List Nat} {k : Nat} (h : w.eraseIdx k ≠ []) : w ≠ [] := fun z => h (by rw [z]; rfl)
theorem zKp.goes {S : zS} {g s : Nat} : zKp S (qGoes S g s) := (zKp.l zne_erase).tr zKp.gone
theorem zKp.flee1 {S : zS} {g : Nat} : zKp S (qFlee1 S g) := zKp.goes.tr (zKp.x (by decide))
theorem zKp.flee {g : Nat} : ∀ (n : Nat) {S : zS}, zKp S (qFlee S g n)
  | 0, S => zKp.rf
  | n + 1, S => by
    rw [qFlee]
    split
    · exact zKp.rf
    · exact zKp.flee1.tr (zKp.flee n)
theorem zKp.foll {S : zS} {g s : Nat} : zKp S (qFoll S g s) := (zKp.goes.tr (zKp.x (by decide))).tr (zKp.g (by decide))
theorem zKp.less {S : zS} {g : Nat} : zKp S (qLess S g) := by
  unfold qLess
  split
  · exact (zKp.g (by decide)).tr (zKp.g (by decide))
  · exact zKp.g (by decide)
theorem zKp.pass {S : zS} {g : Nat} : zKp S (qPass S g) := by
  unfold qPass
  split
  · exact (zKp.goes.tr (zKp.g (by decide))).tr zKp.less
  · split
    · exact zKp.foll.tr zKp.less
    · exact zKp.less
theorem zKp.away {S : zS} {s : Nat} : zKp S (qAway S s) := by
  unfold qAway
  split
  · refine ⟨?_, fun _ => rfl, fun _ _ h => h, rfl⟩
    unfold qGapE
    simp only [tX_X]
    exact zrg3 _ _ _ _
  · exact zKp.x (by decide)
theorem zKp.opened {S : zS} {g s : Nat} : zKp S (qOpened S g s) := ((((zKp.g (by decide)).tr (zKp.g (by decide))).tr (zKp.g (by decide))).tr (zKp.g (by decide))).tr (zKp.g (by decide))
theorem zKp.opn {S : zS} {g : Nat} : zKp S (qOpen S g) := by
  unfold qOpen
  split
  · rename_i h
    unfold qOpenAt
    split
    · exact (zKp.l (fun _ z => by rw [z] at h; exact absurd h (Nat.not_lt_zero _))).tr zKp.opened
    · exact (zKp.l zne_erase).tr zKp.away
  · exact zKp.rf
theorem zKp.live {S : zS} {g : Nat} : zKp S (qLive S g) := by
  unfold qLive
  split
  · exact zKp.flee _
  · split
    · exact zKp.pass
    · exact zKp.opn
theorem zKp.gates {S : zS} : ∀ n, zKp S (qGates S n)
  | 0 => zKp.rf
  | n + 1 => (zKp.gates n).tr zKp.live
theorem zKp.tick {S : zS} : zKp S (qTick S) := (zKp.gates 6).tr (zKp.x (by decide))
theorem zKp.ticks {S : zS} : ∀ n, zKp S (qTicks S n)
  | 0 => zKp.rf
  | n + 1 => (zKp.ticks n).tr zKp.tick
theorem zKp.shut {S : zS} : ∀ n, zKp S (qShut S n)
  | 0 => zKp.rf
  | n + 1 => (((zKp.shut n).tr (zKp.g (by decide))).tr (zKp.g (by decide))).tr (zKp.g (by decide))
theorem zKp.key {S : zS} {k : Nat} (hk : k < 3) : zKp S (qKey S k) := by
  have h : zKp S (qKeyed S k) := zKp.x (by omega)
  unfold qKey
  split
  · exact h.tr (zKp.shut 6)
  · exact h
/-- the sums are right, and who waits is served -/
def zGp (S : zS) : Prop := qGapE S = 0 ∧ ∀ g s : Nat, s < 2 → sL S g s ≠ [] → qSv (sG S g 0) s
theorem zGp.kp {S S' : zS} (h : zGp S) (g : zKp S S') : zGp S' := ⟨g.1.trans h.1, fun k s hs z => by rw [g.2.1 k]; exact h.2 k s hs (g.2.2.1 k s z)⟩
theorem zGp.gap {S : zS} (h : zGp S) : qGap S = 0 := by
  have e : qUnserved S = 0 := by
    have : nsum (qUns S) 6 ≤ 0 * 6 := nsum_le (f := qUns S) (b := 0) (fun g => by
      unfold qUns
      have h0 := h.2 g 0 (by decide)
      have h1 := h.2 g 1 (by decide)
      have a0 : (if qSv (sG S g 0) 0 then 0 else (sL S g 0).length) = 0 := by
        split
        · rfl
        · rename_i q
          rcases Nat.eq_zero_or_pos (sL S g 0).length with z | z
          · exact z
          · exact absurd (h0 (List.length_pos_iff.mp z)) q
      have a1 : (if qSv (sG S g 0) 1 then 0 else (sL S g 1).length) = 0 := by
        split
        · rfl
        · rename_i q
          rcases Nat.eq_zero_or_pos (sL S g 1).length with z | z
          · exact z
          · exact absurd (h1 (List.length_pos_iff.mp z)) q
      rw [a0, a1]; exact Nat.le_refl _) 6
    unfold qUnserved
    omega
  unfold qGap
  rw [h.1, e]; rfl
theorem zGp_blank : zGp zBlank := ⟨rfl, fun _ _ _ h => absurd rfl h⟩
theorem zGp.lines {S : zS} {g s : Nat} {w : List Nat} (h : zGp S) (hs : s < 2 → w ≠ [] → qSv (sG S g 0) s) : zGp (tL S g s w) := by
  refine ⟨h.1, fun k i hi z => ?_⟩
  rw [tL_L] at z
  show qSv (sG S k 0) i
  by_cases q : k = g ∧ i = s
  · obtain ⟨rfl, rfl⟩ := q
    rw [if_pos ⟨rfl, rfl⟩] at z; exact hs hi z
  · rw [if_neg q] at z; exact h.2 k i hi z
theorem qWhy_sv {S : zS} {g s w : Nat} (h : qWhy S g s w = 0) : qSv (sG S g 0) s := by
  unfold qWhy at h
  split at h
  · cases h
  · rename_i q; exact Decidable.not_not.mp q
theorem zGp.join {S : zS} {g s w : Nat} (h : zGp S) : zGp (sJoin1 S g s w) := by
  unfold sJoin1
  split
  · rename_i q; exact h.lines (fun _ _ => qWhy_sv q)
  · exact h.kp (zKp.x (by decide))
theorem zGp.mode {S : zS} {g : Nat} {v : Int32} (h : zGp S) (h0 : qSv v 0 ∨ sL S g 0 = []) (h1 : qSv v 1 ∨ sL S g 1 = []) : zGp (tG S g 0 v) := by
  refine ⟨h.1, fun k i hi z => ?_⟩
  have z : sL S k i ≠ [] := z
  rw [tG_G]
  by_cases q : k = g
  · subst q
    rw [if_pos ⟨rfl, rfl⟩]
    rcases (show i = 0 ∨ i = 1 by omega) with rfl | rfl
    · exact h0.resolve_right z
    · exact h1.resolve_right z
  · rw [if_neg (fun c => q c.1)]; exact h.2 k i hi z
theorem zGp.gate {S : zS} {m : Int32} (h : zGp S) (hb : ∀ s, sL S (zng S) s = []) : zGp (qAddGate S m) := by
  have := h.mode (g := zng S) (v := m) (Or.inr (hb 0)) (Or.inr (hb 1))
  exact this.kp (zKp.x (by decide))
theorem zGp.card {S : zS} {nm : Nat → Int32} {v : Int32} (h : zGp S) : zGp (qAddCard S nm v) := by
  refine ⟨?_, fun g s hs z => h.2 g s hs z⟩
  have e : ∀ i, i ≠ 5 → sX (qAddCard S nm v) i = sX S i := fun i hi => if_neg hi
  unfold qGapE
  rw [e 9 (by decide), e 10 (by decide), e 15 (by decide), e 3 (by decide)]; exact h.1
