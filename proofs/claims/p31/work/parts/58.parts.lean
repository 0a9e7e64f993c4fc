/-! ===== a station that is being made ===== -/
/-- the first j gates and c cards of a station that is being made at A -/
def zPt (K : zKt) (J : zI) (A : Nat → Nat) (S : zS) (j c : Nat) : Prop :=
  ((∀ i k : Nat, zvd j c i → zvd j c k → i < k → A i < A k) ∧ ∀ i : Nat, zvd j c i → ∃ q : Nat, K.1 (A i) = some q) ∧
  (K.1 (A 0) = some 17 ∧ K.2 (A 0) 5 = some (A 1) ∧ K.2 (A 0) 7 = some (A 2) ∧ K.2 (A 0) 8 = some (A 3)) ∧
  (∀ g : Nat, g < j → (K.2 (A 1) g = some (A (4 + 5 * g)) ∧ K.2 (A (4 + 5 * g)) 7 = some (A (5 + 5 * g)) ∧ K.2 (A (4 + 5 * g)) 8 = some (A (7 + 5 * g)) ∧ K.2 (A (5 + 5 * g)) 1 = some (A (6 + 5 * g)) ∧ K.2 (A (7 + 5 * g)) 1 = some (A (8 + 5 * g))) ∧ (∀ i : Nat, i < 7 → J (A (4 + 5 * g)) i = zgv i (sG S g i)) ∧ zLm J (A (5 + 5 * g)) (A (6 + 5 * g)) (sL S g 0) ∧ zLm J (A (7 + 5 * g)) (A (8 + 5 * g)) (sL S g 1)) ∧
  (∀ k : Nat, k < c → K.2 (A 2) k = some (A (40 + k)) ∧ ∀ i : Nat, i < 4 → J (A (40 + k)) i = sC S k i)
theorem zPt.lt {K : zKt} {J : zI} {A : Nat → Nat} {S : zS} {j c i x : Nat} (h : zPt K J A S j c) (hx : kfr K x) (hi : zvd j c i) : A i < x := by
  obtain ⟨q, hq⟩ := h.1.2 i hi
  exact hx _ _ hq
/-- what lies ahead of x stays -/
theorem zPt.on {K K' : zKt} {J J' : zI} {A : Nat → Nat} {S : zS} {j c : Nat} (h : zPt K J A S j c) (hex : kex K K') (e : ∀ i : Nat, zvd j c i → K'.2 (A i) = K.2 (A i) ∧ J' (A i) = J (A i)) : zPt K' J' A S j c := by
  obtain ⟨⟨h1, h2⟩, ⟨h3, h4, h5, h6⟩, h7, h8⟩ := h
  have e0 := e 0 (by unfold zvd; omega)
  have e1 := e 1 (by unfold zvd; omega)
  have e2 := e 2 (by unfold zvd; omega)
  refine ⟨⟨h1, fun i hi => ?_⟩, ⟨hex _ _ h3, by rw [e0.1]; exact h4, by rw [e0.1]; exact h5, by rw [e0.1]; exact h6⟩, fun g hg => ?_, fun k hk => ?_⟩
  · obtain ⟨q, hq⟩ := h2 i hi
    exact ⟨q, hex _ _ hq⟩
  · obtain ⟨⟨r1, r2, r3, r4, r5⟩, v, w0, w1⟩ := h7 g hg
    have g4 := e (4 + 5 * g) (by unfold zvd; omega)
    have g5 := e (5 + 5 * g) (by unfold zvd; omega)
    have g6 := e (6 + 5 * g) (by unfold zvd; omega)
    have g7 := e (7 + 5 * g) (by unfold zvd; omega)
    have g8 := e (8 + 5 * g) (by unfold zvd; omega)
    exact ⟨⟨by rw [e1.1]; exact r1, by rw [g4.1]; exact r2, by rw [g4.1]; exact r3, by rw [g5.1]; exact r4, by rw [g7.1]; exact r5⟩, fun i hi => by rw [g4.2]; exact v i hi, w0.kept g5.2 g6.2, w1.kept g7.2 g8.2⟩
  · obtain ⟨r1, v⟩ := h8 k hk
    have g4 := e (40 + k) (by unfold zvd; omega)
    exact ⟨by rw [e2.1]; exact r1, fun i hi => by rw [g4.2]; exact v i hi⟩
def zAg (A : Nat → Nat) (j x y0 b0 y1 b1 : Nat) : Nat → Nat := fun i => if i = 4 + 5 * j then x else if i = 5 + 5 * j then y0 else if i = 6 + 5 * j then b0 else if i = 7 + 5 * j then y1 else if i = 8 + 5 * j then b1 else A i
theorem zAg_0 {A : Nat → Nat} {j x y0 b0 y1 b1 : Nat} : zAg A j x y0 b0 y1 b1 (4 + 5 * j) = x := if_pos rfl
theorem zAg_1 {A : Nat → Nat} {j x y0 b0 y1 b1 : Nat} : zAg A j x y0 b0 y1 b1 (5 + 5 * j) = y0 := by unfold zAg; rw [if_neg (by omega), if_pos rfl]
theorem zAg_2 {A : Nat → Nat} {j x y0 b0 y1 b1 : Nat} : zAg A j x y0 b0 y1 b1 (6 + 5 * j) = b0 := by unfold zAg; rw [if_neg (by omega), if_neg (by omega), if_pos rfl]
theorem zAg_3 {A : Nat → Nat} {j x y0 b0 y1 b1 : Nat} : zAg A j x y0 b0 y1 b1 (7 + 5 * j) = y1 := by unfold zAg; rw [if_neg (by omega), if_neg (by omega), if_neg (by omega), if_pos rfl]
theorem zAg_4 {A : Nat → Nat} {j x y0 b0 y1 b1 : Nat} : zAg A j x y0 b0 y1 b1 (8 + 5 * j) = b1 := by unfold zAg; rw [if_neg (by omega), if_neg (by omega), if_neg (by omega), if_neg (by omega), if_pos rfl]
theorem zAg_n {A : Nat → Nat} {j x y0 b0 y1 b1 i : Nat} (h : i < 4 + 5 * j ∨ 9 + 5 * j ≤ i) : zAg A j x y0 b0 y1 b1 i = A i := by unfold zAg; rw [if_neg (by omega), if_neg (by omega), if_neg (by omega), if_neg (by omega), if_neg (by omega)]
/-- one more gate -/
theorem zPt.gate {K K' : zKt} {J J' : zI} {A : Nat → Nat} {S : zS} {j x y0 b0 y1 b1 : Nat} (h : zPt K J A S j 0) (hx : kfr K x) (hex : kex K K') (fr : ∀ q, q < x → K'.2 q = K.2 q ∧ J' q = J q)
    (o1 : x < y0) (o2 : y0 < b0) (o3 : b0 < y1) (o4 : y1 < b1) (hk : K'.1 x = some 14 ∧ K'.1 y0 = some 15 ∧ K'.1 b0 = some 18 ∧ K'.1 y1 = some 15 ∧ K'.1 b1 = some 18) (hr : K'.2 x 7 = some y0 ∧ K'.2 x 8 = some y1 ∧ K'.2 y0 1 = some b0 ∧ K'.2 y1 1 = some b1)
    (hv : ∀ i : Nat, i < 7 → J' x i = zgv i (sG S j i)) (w0 : zLm J' y0 b0 (sL S j 0)) (w1 : zLm J' y1 b1 (sL S j 1)) : zPt (kset K' (A 1) j x) J' (zAg A j x y0 b0 y1 b1) S (j + 1) 0 := by
  have hlt : ∀ i, zvd j 0 i → A i < x := fun i hi => h.lt hx hi
  have h1 : A 1 < x := hlt 1 (by unfold zvd; omega)
  have hz := h.on hex (fun i hi => fr _ (hlt i hi))
  obtain ⟨⟨g1, g2⟩, ⟨g3, g4, g5, g6⟩, g7, -⟩ := hz
  have h01 : A 0 ≠ A 1 := by have := g1 0 1 (by unfold zvd; omega) (by unfold zvd; omega) (by omega); omega
  have a0 : zAg A j x y0 b0 y1 b1 0 = A 0 := zAg_n (by omega)
  have a1 : zAg A j x y0 b0 y1 b1 1 = A 1 := zAg_n (by omega)
  have a2 : zAg A j x y0 b0 y1 b1 2 = A 2 := zAg_n (by omega)
  have a3 : zAg A j x y0 b0 y1 b1 3 = A 3 := zAg_n (by omega)
  have hval : ∀ i, zvd (j + 1) 0 i → (zvd j 0 i ∧ zAg A j x y0 b0 y1 b1 i = A i) ∨ (i = 4 + 5 * j ∧ zAg A j x y0 b0 y1 b1 i = x) ∨ (i = 5 + 5 * j ∧ zAg A j x y0 b0 y1 b1 i = y0) ∨ (i = 6 + 5 * j ∧ zAg A j x y0 b0 y1 b1 i = b0) ∨ (i = 7 + 5 * j ∧ zAg A j x y0 b0 y1 b1 i = y1) ∨ (i = 8 + 5 * j ∧ zAg A j x y0 b0 y1 b1 i = b1) := by
    intro i hi
    by_cases q : i < 4 + 5 * j
    · exact Or.inl ⟨by unfold zvd at hi ⊢; omega, zAg_n (by omega)⟩
    · have : i = 4 + 5 * j ∨ i = 5 + 5 * j ∨ i = 6 + 5 * j ∨ i = 7 + 5 * j ∨ i = 8 + 5 * j := by unfold zvd at hi; omega
      rcases this with rfl | rfl | rfl | rfl | rfl
      · exact Or.inr (Or.inl ⟨rfl, zAg_0⟩)
      · exact Or.inr (Or.inr (Or.inl ⟨rfl, zAg_1⟩))
      · exact Or.inr (Or.inr (Or.inr (Or.inl ⟨rfl, zAg_2⟩)))
      · exact Or.inr (Or.inr (Or.inr (Or.inr (Or.inl ⟨rfl, zAg_3⟩))))
      · exact Or.inr (Or.inr (Or.inr (Or.inr (Or.inr ⟨rfl, zAg_4⟩))))
  have hw : ∀ i, zvd j 0 i → i < 4 + 5 * j := fun i hi => by unfold zvd at hi; omega
  refine ⟨⟨fun i k hi hk2 hik => ?_, fun i hi => ?_⟩, ⟨by rw [a0]; exact g3, by rw [a0, a1, kset_ne h01]; exact g4, by rw [a0, a2, kset_ne h01]; exact g5, by rw [a0, a3, kset_ne h01]; exact g6⟩, fun g hg => ?_, fun k hk2 => absurd hk2 (Nat.not_lt_zero _)⟩
  · rcases hval i hi with ⟨v1, e1⟩ | ⟨e1, e2⟩ | ⟨e1, e2⟩ | ⟨e1, e2⟩ | ⟨e1, e2⟩ | ⟨e1, e2⟩ <;> rcases hval k hk2 with ⟨v3, e3⟩ | ⟨e3, e4⟩ | ⟨e3, e4⟩ | ⟨e3, e4⟩ | ⟨e3, e4⟩ | ⟨e3, e4⟩
    · rw [e1, e3]; exact g1 i k v1 v3 hik
    all_goals first | (have l1 := hlt i v1; have l2 := hw i v1; omega) | (have l2 := hw k v3; omega) | omega
  · rcases hval i hi with ⟨v1, e1⟩ | ⟨e1, e2⟩ | ⟨e1, e2⟩ | ⟨e1, e2⟩ | ⟨e1, e2⟩ | ⟨e1, e2⟩
    · rw [e1]; exact g2 i v1
    · exact ⟨_, by rw [e2]; exact hk.1⟩
    · exact ⟨_, by rw [e2]; exact hk.2.1⟩
    · exact ⟨_, by rw [e2]; exact hk.2.2.1⟩
    · exact ⟨_, by rw [e2]; exact hk.2.2.2.1⟩
    · exact ⟨_, by rw [e2]; exact hk.2.2.2.2⟩
  · by_cases q : g = j
    · subst q
      rw [a1, zAg_0, zAg_1, zAg_2, zAg_3, zAg_4]
      exact ⟨⟨kset_eq, (kset_ne (by omega)).trans hr.1, (kset_ne (by omega)).trans hr.2.1, (kset_ne (by omega)).trans hr.2.2.1, (kset_ne (by omega)).trans hr.2.2.2⟩, hv, w0, w1⟩
    · have hg2 : g < j := by omega
      obtain ⟨⟨r1, r2, r3, r4, r5⟩, v, u0, u1⟩ := g7 g hg2
      have n1 : ∀ i, zvd j 0 i → 1 < i → A i ≠ A 1 := fun i hi h1i => by have := g1 1 i (by unfold zvd; omega) hi h1i; omega
      rw [a1, zAg_n (i := 4 + 5 * g) (by omega), zAg_n (i := 5 + 5 * g) (by omega), zAg_n (i := 6 + 5 * g) (by omega), zAg_n (i := 7 + 5 * g) (by omega), zAg_n (i := 8 + 5 * g) (by omega)]
      exact ⟨⟨(kset_nj q).trans r1, (kset_ne (n1 _ (by unfold zvd; omega) (by omega))).trans r2, (kset_ne (n1 _ (by unfold zvd; omega) (by omega))).trans r3, (kset_ne (n1 _ (by unfold zvd; omega) (by omega))).trans r4, (kset_ne (n1 _ (by unfold zvd; omega) (by omega))).trans r5⟩, v, u0, u1⟩
def zAc (A : Nat → Nat) (c x : Nat) : Nat → Nat := fun i => if i = 40 + c then x else A i
theorem zAc_0 {A : Nat → Nat} {c x : Nat} : zAc A c x (40 + c) = x := if_pos rfl
theorem zAc_n {A : Nat → Nat} {c x i : Nat} (h : i ≠ 40 + c) : zAc A c x i = A i := if_neg h
/-- one more card -/
theorem zPt.card {K K' : zKt} {J J' : zI} {A : Nat → Nat} {S : zS} {j c x : Nat} (h : zPt K J A S j c) (hj : j ≤ 6) (hx : kfr K x) (hex : kex K K') (fr : ∀ q, q < x → K'.2 q = K.2 q ∧ J' q = J q)
    (hk : K'.1 x = some 8) (hv : ∀ i : Nat, i < 4 → J' x i = sC S c i) : zPt (kset K' (A 2) c x) J' (zAc A c x) S j (c + 1) := by
  have hlt : ∀ i, zvd j c i → A i < x := fun i hi => h.lt hx hi
  have hz := h.on hex (fun i hi => fr _ (hlt i hi))
  obtain ⟨⟨g1, g2⟩, ⟨g3, g4, g5, g6⟩, g7, g8⟩ := hz
  have n2 : ∀ i, zvd j c i → i ≠ 2 → A i ≠ A 2 := fun i hi h2i => by
    rcases Nat.lt_or_ge i 2 with q | q
    · have := g1 i 2 hi (by unfold zvd; omega) q; omega
    · have := g1 2 i (by unfold zvd; omega) hi (by omega); omega
  have an : ∀ i, zvd j c i → zAc A c x i = A i := fun i hi => zAc_n (by unfold zvd at hi; omega)
  have hval : ∀ i, zvd j (c + 1) i → zvd j c i ∨ i = 40 + c := fun i hi => by unfold zvd at hi ⊢; omega
  have hw : ∀ i, zvd j c i → i < 40 + c := fun i hi => by unfold zvd at hi; omega
  have v0 : zvd j c 0 := by unfold zvd; omega
  have v1 : zvd j c 1 := by unfold zvd; omega
  have v2 : zvd j c 2 := by unfold zvd; omega
  have v3 : zvd j c 3 := by unfold zvd; omega
  refine ⟨⟨fun i k hi hk2 hik => ?_, fun i hi => ?_⟩, ⟨by rw [an _ v0]; exact g3, by rw [an _ v0, an _ v1, kset_ne (n2 _ v0 (by omega))]; exact g4, by rw [an _ v0, an _ v2, kset_ne (n2 _ v0 (by omega))]; exact g5, by rw [an _ v0, an _ v3, kset_ne (n2 _ v0 (by omega))]; exact g6⟩, fun g hg => ?_, fun k hk2 => ?_⟩
  · rcases hval i hi with w | rfl
    · rcases hval k hk2 with w2 | rfl
      · rw [an _ w, an _ w2]; exact g1 i k w w2 hik
      · rw [an _ w, zAc_0]; exact hlt i w
    · rcases hval k hk2 with w2 | rfl
      · have := hw k w2; omega
      · omega
  · rcases hval i hi with w | rfl
    · rw [an _ w]; exact g2 i w
    · rw [zAc_0]; exact ⟨_, hk⟩
  · obtain ⟨⟨r1, r2, r3, r4, r5⟩, v, u0, u1⟩ := g7 g hg
    have w4 : zvd j c (4 + 5 * g) := by unfold zvd; omega
    have w5 : zvd j c (5 + 5 * g) := by unfold zvd; omega
    have w6 : zvd j c (6 + 5 * g) := by unfold zvd; omega
    have w7 : zvd j c (7 + 5 * g) := by unfold zvd; omega
    have w8 : zvd j c (8 + 5 * g) := by unfold zvd; omega
    rw [an _ v1, an _ w4, an _ w5, an _ w6, an _ w7, an _ w8]
    exact ⟨⟨(kset_ne (n2 _ v1 (by omega))).trans r1, (kset_ne (n2 _ w4 (by omega))).trans r2, (kset_ne (n2 _ w4 (by omega))).trans r3, (kset_ne (n2 _ w5 (by omega))).trans r4, (kset_ne (n2 _ w7 (by omega))).trans r5⟩, v, u0, u1⟩
  · rw [an _ v2]
    by_cases q : k = c
    · subst q
      rw [zAc_0]
      exact ⟨kset_eq, hv⟩
    · obtain ⟨r1, v⟩ := g8 k (by omega)
      rw [an _ (by unfold zvd; omega)]
      exact ⟨(kset_nj q).trans r1, v⟩
theorem nsum_ge {f : Nat → Nat} : ∀ n i, i < n → f i ≤ nsum f n
  | n + 1, i, h => by
    rw [nsum]
    rcases Nat.lt_succ_iff_lt_or_eq.mp h with q | rfl
    · have := nsum_ge (f := f) n i q; omega
    · omega
/-- .. it is one -/
theorem zPt.done {K : zKt} {J : zI} {A : Nat → Nat} {S : zS} {n m : Nat} (h : zPt K J A S n m) (hn : n ≤ 6) (hm : m ≤ 12) (h4 : sX S 4 = nI n) (h5 : sX S 5 = nI m) (hX : ∀ i : Nat, i < 15 → (i < 6 ∨ 9 ≤ i) → J (A 0) (zss i) = sX S i) (hK : ∀ k : Nat, k < 3 → J (A 3) k = sX S (6 + k)) :
    ∃ A2 : Nat → Nat, (∀ i, zvd n m i → A2 i = A i) ∧ zSh K A2 n m ∧ zSt J A2 n m S := by
  obtain ⟨⟨g1, g2⟩, ⟨g3, g4, g5, g6⟩, g7, g8⟩ := h
  have hd : ∀ i, zvd n m i → i < 60 := fun i hi => by unfold zvd at hi; omega
  have hb : ∀ i, zvd n m i → A i ≤ nsum A 60 := fun i hi => nsum_ge 60 i (hd i hi)
  have dec : ∀ i, zvd n m i ∨ ¬ zvd n m i := fun i => Classical.em _
  classical
  let A2 : Nat → Nat := fun i => if zvd n m i then A i else nsum A 60 + 1 + i
  have e : ∀ i, zvd n m i → A2 i = A i := fun i hi => if_pos hi
  have e2 : ∀ i, ¬ zvd n m i → A2 i = nsum A 60 + 1 + i := fun i hi => if_neg hi
  have v0 : zvd n m 0 := by unfold zvd; omega
  have v1 : zvd n m 1 := by unfold zvd; omega
  have v2 : zvd n m 2 := by unfold zvd; omega
  have v3 : zvd n m 3 := by unfold zvd; omega
  refine ⟨A2, e, ⟨fun i k hik => ?_, ⟨by rw [e _ v0]; exact g3, by rw [e _ v0, e _ v1]; exact g4, by rw [e _ v0, e _ v2]; exact g5, by rw [e _ v0, e _ v3]; exact g6⟩, fun g hg => ?_, fun c hc => ?_, ⟨hn, hm⟩, fun i hi => by rw [e i hi]; exact g2 i hi⟩, ⟨⟨hn, hm⟩, ⟨h4, h5⟩, fun i a b => by rw [e _ v0]; exact hX i a b, fun k a => by rw [e _ v3]; exact hK k a, fun g hg => ?_, fun c hc i hi => ?_⟩⟩
  · rcases dec i with hi | hi <;> rcases dec k with hk | hk
    · rw [e i hi, e k hk] at hik
      rcases Nat.lt_trichotomy i k with q | q | q
      · have := g1 i k hi hk q; omega
      · exact q
      · have := g1 k i hk hi q; omega
    · rw [e i hi, e2 k hk] at hik; have := hb i hi; omega
    · rw [e2 i hi, e k hk] at hik; have := hb k hk; omega
    · rw [e2 i hi, e2 k hk] at hik; omega
  · have r := (g7 g hg).1
    rw [e _ v1, e (4 + 5 * g) (by unfold zvd; omega), e (5 + 5 * g) (by unfold zvd; omega), e (6 + 5 * g) (by unfold zvd; omega), e (7 + 5 * g) (by unfold zvd; omega), e (8 + 5 * g) (by unfold zvd; omega)]
    exact r
  · rw [e _ v2, e (40 + c) (by unfold zvd; omega)]; exact (g8 c hc).1
  · have r := (g7 g hg).2
    rw [e (4 + 5 * g) (by unfold zvd; omega), e (5 + 5 * g) (by unfold zvd; omega), e (6 + 5 * g) (by unfold zvd; omega), e (7 + 5 * g) (by unfold zvd; omega), e (8 + 5 * g) (by unfold zvd; omega)]
    exact r
  · rw [e (40 + c) (by unfold zvd; omega)]; exact (g8 c hc).2 i hi
