/-! ===== what is kept: the state stays well-formed ===== -/
/-- all of it but the paddles -/
def zWa (S : zS) : Prop :=
  (zng S ≤ 6 ∧ sX S 4 = nI (zng S)) ∧ (znc S ≤ 12 ∧ sX S 5 = nI (znc S)) ∧
  (∀ g : Nat, zng S ≤ g → (∀ j : Nat, sG S g j = 0) ∧ ∀ s : Nat, sL S g s = []) ∧
  (∀ (g s y : Nat), y ∈ sL S g s → y ≤ znc S) ∧ (∀ (g s : Nat), (sL S g s).length ≤ 10) ∧
  ((∃ h : Nat, 1 ≤ h ∧ h ≤ 9 ∧ sX S 0 = nI h) ∧ ∃ f : Nat, 1 ≤ f ∧ f ≤ 4 ∧ sX S 1 = nI f) ∧
  ((sX S 6 = 0 ∨ sX S 6 = 1) ∧ (sX S 7 = 0 ∨ sX S 7 = 1) ∧ (sX S 8 = 0 ∨ sX S 8 = 1)) ∧
  (∀ c g s p g' s' p' : Nat, zAt S c g s p → zAt S c g' s' p' → g = g' ∧ s = s' ∧ p = p') ∧
  (∀ c : Nat, (sC S c 1 = 0 ∨ sC S c 1 = 1) ∧ (sC S c 2 = 0 ∨ sC S c 2 = 1)) ∧
  (∀ c : Nat, znc S ≤ c → (∀ j : Nat, sC S c j = 0) ∧ ∀ k : Nat, sM S c k = 0) ∧
  (∀ c : Nat, c < znc S → ∃ n : Nat, 1 ≤ n ∧ n ≤ 6 ∧ ∀ k : Nat, (k < n → 97 ≤ sM S c k ∧ sM S c k ≤ 122) ∧ (n ≤ k → sM S c k = 0))
theorem zWf.a {S : zS} (h : zWf S) : zWa S := ⟨h.ng, h.nc, h.blank, h.le, h.len, ⟨h.hold, h.flow⟩, h.keys, h.uniq, h.bits, h.blankc, h.names⟩
theorem zWf_mk {S : zS} (h : zWa S) (hp : ∀ g, zPad S g) (hn : zPan S → ∀ g, sG S g 2 = 0) : zWf S := by
  obtain ⟨h1, h2, h3, h4, h5, h6, h7, h8, h9, h10, h11⟩ := h
  exact ⟨h1, h2, h3, h4, h5, h6, h7, hp, hn, h8, h9, h10, h11⟩
/-- the numbers that tell how much there is -/
def zX7 (S S' : zS) : Prop := sX S' 0 = sX S 0 ∧ sX S' 1 = sX S 1 ∧ sX S' 4 = sX S 4 ∧ sX S' 5 = sX S 5 ∧ sX S' 6 = sX S 6 ∧ sX S' 7 = sX S 7 ∧ sX S' 8 = sX S 8
theorem zX7.rf {S S' : zS} (h : sX S' = sX S) : zX7 S S' := by unfold zX7; rw [h]; exact ⟨rfl, rfl, rfl, rfl, rfl, rfl, rfl⟩
theorem zX7.ng {S S' : zS} (h : zX7 S S') : zng S' = zng S := by unfold zng; rw [h.2.2.1]
theorem zX7.nc {S S' : zS} (h : zX7 S S') : znc S' = znc S := by unfold znc; rw [h.2.2.2.1]
theorem zX7.pan {S S' : zS} (h : zX7 S S') : zPan S' ↔ zPan S := by unfold zPan; rw [h.2.2.2.2.1, h.2.2.2.2.2.1, h.2.2.2.2.2.2]
theorem zX7.tr {S S' S2 : zS} (h : zX7 S S') (g : zX7 S' S2) : zX7 S S2 := by
  obtain ⟨h0, h1, h2, h3, h4, h5, h6⟩ := h
  obtain ⟨g0, g1, g2, g3, g4, g5, g6⟩ := g
  exact ⟨g0.trans h0, g1.trans h1, g2.trans h2, g3.trans h3, g4.trans h4, g5.trans h5, g6.trans h6⟩
theorem zX7.tX {S : zS} {i : Nat} {v : Int32} (hi : i ≠ 0 ∧ i ≠ 1 ∧ i ≠ 4 ∧ i ≠ 5 ∧ i ≠ 6 ∧ i ≠ 7 ∧ i ≠ 8) : zX7 S (tX S i v) := by
  obtain ⟨h0, h1, h2, h3, h4, h5, h6⟩ := hi
  unfold zX7
  simp only [tX_X, if_neg h0.symm, if_neg h1.symm, if_neg h2.symm, if_neg h3.symm, if_neg h4.symm, if_neg h5.symm, if_neg h6.symm, and_self]
theorem zX7.gone {S : zS} {w s : Nat} : zX7 S (qGone S w s) := ⟨qGone_X (by decide), qGone_X (by decide), qGone_X (by decide), qGone_X (by decide), qGone_X (by decide), qGone_X (by decide), qGone_X (by decide)⟩
theorem zWa_of {S S' : zS} (h : zWa S) (hX : zX7 S S') (hM : sM S' = sM S) (hB : ∀ g : Nat, zng S ≤ g → (∀ j : Nat, sG S' g j = 0) ∧ ∀ s : Nat, sL S' g s = [])
    (hle : ∀ (g s y : Nat), y ∈ sL S' g s → y ≤ znc S) (hlen : ∀ (g s : Nat), (sL S' g s).length ≤ 10) (hu : ∀ c g s p g' s' p' : Nat, zAt S' c g s p → zAt S' c g' s' p' → g = g' ∧ s = s' ∧ p = p')
    (hb : ∀ c : Nat, (sC S' c 1 = 0 ∨ sC S' c 1 = 1) ∧ (sC S' c 2 = 0 ∨ sC S' c 2 = 1)) (hc : ∀ c : Nat, znc S ≤ c → ∀ j : Nat, sC S' c j = 0) : zWa S' := by
  obtain ⟨h1, h2, h3, h4, h5, h6, h7, h8, h9, h10, h11⟩ := h
  have e1 := hX.ng
  have e2 := hX.nc
  obtain ⟨x0, x1, x4, x5, x6, x7, x8⟩ := hX
  unfold zWa
  rw [e1, e2, x0, x1, x4, x5, x6, x7, x8, hM]
  exact ⟨h1, h2, hB, hle, hlen, h6, h7, hu, hb, fun c h => ⟨hc c h, (h10 c h).2⟩, h11⟩
theorem zWa_tX {S : zS} {i : Nat} {v : Int32} (h : zWa S) (hi : i ≠ 0 ∧ i ≠ 1 ∧ i ≠ 4 ∧ i ≠ 5 ∧ i ≠ 6 ∧ i ≠ 7 ∧ i ≠ 8) : zWa (tX S i v) := by
  have h0 := h
  obtain ⟨h1, h2, h3, h4, h5, h6, h7, h8, h9, h10, h11⟩ := h
  exact zWa_of h0 (zX7.tX hi) rfl h3 h4 h5 h8 h9 (fun c hc => (h10 c hc).1)
theorem zWa_tG {S : zS} {g j : Nat} {v : Int32} (h : zWa S) (hg : g < zng S ∨ v = 0) : zWa (tG S g j v) := by
  have h0 := h
  obtain ⟨h1, h2, h3, h4, h5, h6, h7, h8, h9, h10, h11⟩ := h
  refine zWa_of h0 (zX7.rf rfl) rfl (fun k hk => ⟨fun i => ?_, (h3 k hk).2⟩) h4 h5 h8 h9 (fun c hc => (h10 c hc).1)
  rw [tG_G]
  split
  · rename_i e
    rcases hg with hg | hg
    · omega
    · exact hg
  · exact (h3 k hk).1 i
theorem zWa_tC {S : zS} {c j : Nat} {v : Int32} (h : zWa S) (hc : c < znc S) (hv : (j ≠ 1 ∧ j ≠ 2) ∨ v = 0 ∨ v = 1) : zWa (tC S c j v) := by
  have h0 := h
  obtain ⟨h1, h2, h3, h4, h5, h6, h7, h8, h9, h10, h11⟩ := h
  refine zWa_of h0 (zX7.rf rfl) rfl h3 h4 h5 h8 (fun k => ?_) (fun k hk i => ?_)
  · have e : ∀ i, (i = 1 ∨ i = 2) → (sC S k i = 0 ∨ sC S k i = 1) → (sC (tC S c j v) k i = 0 ∨ sC (tC S c j v) k i = 1) := by
      intro i hi h
      show zu2 (sC S) c j v k i = 0 ∨ zu2 (sC S) c j v k i = 1
      rw [zu2]
      split
      · rename_i e
        rcases hv with hv | hv
        · omega
        · exact hv
      · exact h
    exact ⟨e 1 (Or.inl rfl) (h9 k).1, e 2 (Or.inr rfl) (h9 k).2⟩
  · show zu2 (sC S) c j v k i = 0
    rw [zu2_ne (by omega)]; exact (h10 k hk).1 i
theorem zWa_passed {S : zS} {c s : Nat} (h : zWa S) (hc : c < znc S) : zWa (qPassed S c s) := by
  unfold qPassed
  refine zWa_tC ?_ ?_ (Or.inl (by omega))
  · split
    · exact zWa_tC (zWa_tC h hc (Or.inr (Or.inr rfl))) hc (Or.inl (by omega))
    · exact zWa_tC h hc (Or.inr (Or.inl rfl))
  · split <;> exact hc
theorem zWa_gone {S : zS} {w s : Nat} (h : zWa S) (hw : w ≤ znc S) : zWa (qGone S w s) := by
  have key : ∀ s9, zWa (if w = 0 then S else qPassed S (w - 1) s9) := fun s9 => by
    split
    · exact h
    · exact zWa_passed h (by omega)
  unfold qGone
  split <;> exact zWa_tX (zWa_tX (key _) (by decide)) (by decide)
/-- the place before one was taken out, before one was brought to the front -/
theorem zWa_lines {S : zS} {g s : Nat} {w : List Nat} (h : zWa S) (f : Nat → Nat) (hf : ∀ p q, p < w.length → q < w.length → f p = f q → p = q) (hw : ∀ p, p < w.length → w[p]? = (sL S g s)[f p]?) (hl : w.length ≤ (sL S g s).length) : zWa (tL S g s w) := by
  have h0 := h
  obtain ⟨h1, h2, h3, h4, h5, h6, h7, h8, h9, h10, h11⟩ := h
  have hL : ∀ x y, sL (tL S g s w) x y = if x = g ∧ y = s then w else sL S x y := fun x y => rfl
  have back : ∀ c x y p, zAt (tL S g s w) c x y p → zAt S c x y (if x = g ∧ y = s then f p else p) ∧ (x = g ∧ y = s → p < w.length) := by
    intro c x y p ⟨z1, z2, z3⟩
    rw [hL] at z3
    by_cases e : x = g ∧ y = s
    · rw [if_pos e] at z3 ⊢
      have hp : p < w.length := by
        rcases Nat.lt_or_ge p w.length with q | q
        · exact q
        · rw [List.getElem?_eq_none q] at z3; cases z3
      refine ⟨⟨z1, z2, ?_⟩, fun _ => hp⟩
      rw [e.1, e.2, ← hw p hp]; exact z3
    · rw [if_neg e] at z3 ⊢
      exact ⟨⟨z1, z2, z3⟩, fun z => absurd z e⟩
  refine zWa_of h0 (zX7.rf rfl) rfl (fun k hk => ⟨(h3 k hk).1, fun y => ?_⟩) (fun x y z hz => ?_) (fun x y => ?_) (fun c x y p x' y' p' a1 a2 => ?_) h9 (fun c hc => (h10 c hc).1)
  · rw [hL]
    split
    · rename_i e
      have := (h3 k hk).2 s
      rw [e.1] at this
      rw [this] at hl
      exact List.length_eq_zero_iff.mp (Nat.le_zero.mp hl)
    · exact (h3 k hk).2 y
  · rw [hL] at hz
    split at hz
    · obtain ⟨p, hp, e⟩ := List.getElem_of_mem hz
      have := hw p hp
      rw [List.getElem?_eq_getElem hp, e] at this
      exact h4 g s z (List.mem_of_getElem? this.symm)
    · exact h4 x y z hz
  · rw [hL]
    split
    · exact Nat.le_trans hl (h5 g s)
    · exact h5 x y
  · obtain ⟨b1, c1⟩ := back c x y p a1
    obtain ⟨b2, c2⟩ := back c x' y' p' a2
    obtain ⟨r1, r2, r3⟩ := h8 _ _ _ _ _ _ _ b1 b2
    subst r1; subst r2
    refine ⟨rfl, rfl, ?_⟩
    by_cases e : x = g ∧ y = s
    · rw [if_pos e, if_pos e] at r3
      exact hf p p' (c1 e) (c2 e) r3
    · rw [if_neg e, if_neg e] at r3
      exact r3
theorem zWa_erase {S : zS} {g s k : Nat} (h : zWa S) : zWa (tL S g s ((sL S g s).eraseIdx k)) := by
  refine zWa_lines h (fun p => if p < k then p else p + 1) (fun p q _ _ e => ?_) (fun p _ => ?_) ?_
  · by_cases h1 : p < k <;> by_cases h2 : q < k <;> simp only [h1, h2, if_true, if_false] at e <;> omega
  · rw [List.getElem?_eraseIdx]
    split <;> rfl
  · exact List.length_eraseIdx_le _ _
theorem zWa_front {S : zS} {g s k : Nat} (h : zWa S) (hk : k < (sL S g s).length) : zWa (tL S g s ((sL S g s).getD k 0 :: (sL S g s).eraseIdx k)) := by
  have hlen : ((sL S g s).getD k 0 :: (sL S g s).eraseIdx k).length = (sL S g s).length := by rw [List.length_cons, zlen_erase hk]; omega
  refine zWa_lines h (fun p => if p = 0 then k else if p ≤ k then p - 1 else p) (fun p q h1 h2 e => ?_) (fun p hp => ?_) (Nat.le_of_eq hlen)
  · have e2 : (if p = 0 then k else if p ≤ k then p - 1 else p) = (if q = 0 then k else if q ≤ k then q - 1 else q) := e
    split at e2 <;> split at e2 <;> (try split at e2) <;> (try split at e2) <;> omega
  · rcases p with _ | p
    · show some ((sL S g s).getD k 0) = (sL S g s)[k]?
      rw [List.getElem?_eq_getElem hk, List.getD_eq_getElem?_getD, List.getElem?_eq_getElem hk]; rfl
    · rw [List.getElem?_cons_succ, List.getElem?_eraseIdx]
      show _ = (sL S g s)[if p + 1 = 0 then k else if p + 1 ≤ k then p + 1 - 1 else p + 1]?
      by_cases h1 : p < k
      · rw [if_pos h1, if_neg (show ¬ p + 1 = 0 by omega), if_pos (show p + 1 ≤ k by omega)]; rfl
      · rw [if_neg h1, if_neg (show ¬ p + 1 = 0 by omega), if_neg (show ¬ p + 1 ≤ k by omega)]
theorem zWa_add {S : zS} {g s x : Nat} (h : zWa S) (hg : g < zng S) (hx : x ≤ znc S) (hl : (sL S g s).length < 10) (hn : x ≠ 0 → ∀ c g' s' p, x = c + 1 → ¬ zAt S c g' s' p) : zWa (tL S g s (sL S g s ++ [x])) := by
  have h0 := h
  obtain ⟨h1, h2, h3, h4, h5, h6, h7, h8, h9, h10, h11⟩ := h
  have hL : ∀ a b, sL (tL S g s (sL S g s ++ [x])) a b = if a = g ∧ b = s then sL S g s ++ [x] else sL S a b := fun _ _ => rfl
  have back : ∀ c a b p, zAt (tL S g s (sL S g s ++ [x])) c a b p → zAt S c a b p ∨ (x = c + 1 ∧ a = g ∧ b = s ∧ p = (sL S g s).length) := by
    intro c a b p ⟨z1, z2, z3⟩
    rw [hL] at z3
    by_cases e : a = g ∧ b = s
    · rw [if_pos e] at z3
      by_cases hp : p < (sL S g s).length
      · rw [List.getElem?_append_left hp] at z3
        exact Or.inl ⟨z1, z2, by rw [e.1, e.2]; exact z3⟩
      · rw [List.getElem?_append_right (by omega)] at z3
        have hp2 : p - (sL S g s).length = 0 := by
          rcases Nat.eq_zero_or_pos (p - (sL S g s).length) with q | q
          · exact q
          · rw [List.getElem?_eq_none (by exact Nat.succ_le_of_lt q)] at z3; cases z3
        rw [hp2] at z3
        exact Or.inr ⟨by simpa using z3, e.1, e.2, by omega⟩
    · rw [if_neg e] at z3
      exact Or.inl ⟨z1, z2, z3⟩
  refine zWa_of h0 (zX7.rf rfl) rfl (fun k hk => ⟨(h3 k hk).1, fun y => ?_⟩) (fun a b z hz => ?_) (fun a b => ?_) (fun c a b p a' b' p' a1 a2 => ?_) h9 (fun c hc => (h10 c hc).1)
  · rw [hL, if_neg (by omega)]; exact (h3 k hk).2 y
  · rw [hL] at hz
    split at hz
    · rcases List.mem_append.mp hz with q | q
      · exact h4 g s z q
      · rw [List.mem_singleton.mp q]; exact hx
    · exact h4 a b z hz
  · rw [hL]
    split
    · rw [List.length_append]; exact hl
    · exact h5 a b
  · rcases back c a b p a1 with b1 | ⟨d1, d2, d3, d4⟩
    · rcases back c a' b' p' a2 with b2 | ⟨d1, d2, d3, d4⟩
      · exact h8 _ _ _ _ _ _ _ b1 b2
      · exact absurd b1 (hn (by omega) c _ _ _ d1)
    · rcases back c a' b' p' a2 with b2 | ⟨f1, f2, f3, f4⟩
      · exact absurd b2 (hn (by omega) c _ _ _ d1)
      · exact ⟨by omega, by omega, by omega⟩
theorem zgd_nc {S : zS} {g s k : Nat} (h : zWa S) : (sL S g s).getD k 0 ≤ znc S := by
  rw [List.getD_eq_getElem?_getD]
  cases e : (sL S g s)[k]? with
  | none => exact Nat.zero_le _
  | some y => exact h.2.2.2.1 g s y (List.mem_of_getElem? e)
theorem zWa_goes {S : zS} {g s : Nat} (h : zWa S) : zWa (qGoes S g s) := zWa_gone (zWa_erase h) (zgd_nc h)
theorem zX7_goes {S : zS} {g s : Nat} : zX7 S (qGoes S g s) := (zX7.rf (S' := tL S g s ((sL S g s).eraseIdx 0)) rfl).tr zX7.gone
/-- paddles ask for a gate's own numbers and for who is due -/
theorem zPad_of {S S' : zS} {g : Nat} (h : zPad S g) (hG : sG S' g = sG S g) (hL : sG S g 3 = 0 ∨ sL S' g = sL S g) : zPad S' g := by
  unfold zPad at h ⊢
  rw [hG]
  obtain ⟨h1, h2, h3⟩ := h
  refine ⟨h1, h2, ?_⟩
  rcases hL with hL | hL
  · rcases h3 with h3 | ⟨o, o1, o2, o3, h3⟩
    · exact Or.inl h3
    · refine Or.inr ⟨o, o1, o2, o3, ?_⟩
      rcases h3 with ⟨h4, h5⟩ | ⟨h4, h5⟩
      · exact Or.inl ⟨h4, Or.inl hL⟩
      · exact Or.inr ⟨h4, Or.inl hL⟩
  · rw [hL]; exact h3
theorem zPad_shut {S : zS} {g : Nat} (h : zPad S g) (h2 : sG S g 2 = 0) : sG S g 1 = 0 ∧ sG S g 3 = 0 := by
  obtain ⟨-, -, ⟨-, h3, h4⟩ | ⟨o, -, -, -, ⟨h3, -⟩ | ⟨h3, -⟩⟩⟩ := h
  · exact ⟨h3, h4⟩
  · rw [h2] at h3; exact absurd h3 (by decide)
  · rw [h2] at h3; exact absurd h3 (by decide)
theorem zWf_flee1 {S : zS} {g : Nat} (h : zWf S) (hp : zPan S) : zWf (qFlee1 S g) ∧ zPan (qFlee1 S g) := by
  have h7 : zX7 S (qFlee1 S g) := zX7_goes.tr (zX7.tX (by decide))
  have hG : sG (qFlee1 S g) = sG S := qGoes_G
  refine ⟨zWf_mk (zWa_tX (zWa_goes h.a) (by decide)) (fun k => zPad_of (h.pad k) (by rw [hG]) (Or.inl (zPad_shut (h.pad k) (h.pan hp k)).2)) (fun _ k => ?_), h7.pan.mpr hp⟩
  rw [hG]; exact h.pan hp k
theorem zWf_flee {g : Nat} : ∀ (n : Nat) {S : zS}, zWf S → zPan S → zWf (qFlee S g n)
  | 0, _, h, _ => h
  | n + 1, S, h, hp => by
    rw [qFlee]
    split
    · exact h
    · exact zWf_flee n (zWf_flee1 h hp).1 (zWf_flee1 h hp).2
