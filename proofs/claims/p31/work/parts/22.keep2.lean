/-! ===== kept: through paddles, opening, a tick ===== -/
theorem zWa_less {S : zS} {g : Nat} (h : zWa S) (hg : g < zng S) : zWa (qLess S g) := by
  unfold qLess
  split
  · exact zWa_tG (zWa_tG h (Or.inl hg)) (Or.inl hg)
  · exact zWa_tG h (Or.inl hg)
theorem qLess_X {S : zS} {g : Nat} : sX (qLess S g) = sX S := by unfold qLess; split <;> rfl
theorem qLess_L {S : zS} {g : Nat} : sL (qLess S g) = sL S := by unfold qLess; split <;> rfl
theorem qLess_G {S : zS} {g k j : Nat} (h : k ≠ g ∨ (j ≠ 1 ∧ j ≠ 2)) : sG (qLess S g) k j = sG S k j := by
  unfold qLess
  split
  · rw [tG_G, if_neg (by omega), tG_G, if_neg (by omega)]
  · rw [tG_G, if_neg (by omega)]
/-- paddles of which nobody is due any more, one tick less -/
theorem zPad_less {S T : zS} {g : Nat} (h : zPad S g) (ho : sG S g 2 ≠ 0) (h0 : sG T g 0 = sG S g 0) (h1 : sG T g 1 = sG S g 1) (h2 : sG T g 2 = sG S g 2) (h3 : sG T g 3 = 0) (h6 : sG T g 6 = sG S g 6) : zPad (qLess T g) g := by
  obtain ⟨p1, p2, p3⟩ := h
  refine ⟨by rw [qLess_G (Or.inr (by omega)), h0]; exact p1, by rw [qLess_G (Or.inr (by omega)), h6]; exact p2, ?_⟩
  rw [qLess_G (j := 3) (Or.inr (by omega)), h3]
  rcases p3 with ⟨p3, -⟩ | ⟨o, o1, o2, o3, p3⟩
  · exact absurd p3 ho
  · have e : sG T g 1 - 1 = nI (o - 1) := by rw [h1, o3]; exact pk_sub (a := o) (b := 1) (by omega)
    unfold qLess
    split
    · left
      rw [tG_G, if_pos ⟨rfl, rfl⟩, tG_G, if_neg (by omega), tG_G, if_pos ⟨rfl, rfl⟩]
      exact ⟨rfl, rfl, rfl⟩
    · rename_i hn
      right
      rw [e] at hn ⊢
      have hn2 : ¬ o - 1 = 0 := fun z => hn (by rw [z]; rfl)
      refine ⟨o - 1, by omega, by omega, by rw [tG_G, if_pos ⟨rfl, rfl⟩], ?_⟩
      rw [tG_G, if_neg (by omega), h2]
      rcases p3 with ⟨q, -⟩ | ⟨q, -⟩
      · exact Or.inl ⟨q, Or.inl rfl⟩
      · exact Or.inr ⟨q, Or.inl rfl⟩
theorem qLess_pad {S T : zS} {g : Nat} (h : zWf S) (ho : sG S g 2 ≠ 0) (hg : g < zng S) (hA : zWa T) (h7 : zX7 S T) (hG : ∀ k, k ≠ g → sG T k = sG S k) (hL : ∀ k, k ≠ g → sL T k = sL S k) (h0 : sG T g 0 = sG S g 0) (h1 : sG T g 1 = sG S g 1) (h2 : sG T g 2 = sG S g 2) (h3 : sG T g 3 = 0) (h6 : sG T g 6 = sG S g 6) : zWf (qLess T g) := by
  have hnp : ¬ zPan S := fun z => ho (h.pan z g)
  refine zWf_mk (zWa_less hA (by rw [h7.ng]; exact hg)) (fun k => ?_) (fun z => ?_)
  · by_cases e : k = g
    · subst e; exact zPad_less (h.pad k) ho h0 h1 h2 h3 h6
    · refine zPad_of (h.pad k) ?_ (Or.inr (by rw [qLess_L]; exact hL k e))
      funext j
      rw [qLess_G (Or.inl e), hG k e]
  · exact absurd ((h7.tr (zX7.rf qLess_X)).pan.mp z) hnp
theorem qGoes_Lk {S : zS} {g s k : Nat} (h : k ≠ g) : sL (qGoes S g s) k = sL S k := by
  rw [qGoes_L]; funext y; exact zu2_ne (fun z => h z.1)
theorem zWf_ng {S : zS} {g : Nat} (h : zWf S) (ho : sG S g 2 ≠ 0) : g < zng S := by
  rcases Nat.lt_or_ge g (zng S) with q | q
  · exact q
  · exact absurd ((h.blank g q).1 2) ho
theorem zWf_pass {S : zS} {g : Nat} (h : zWf S) (ho : sG S g 2 ≠ 0) : zWf (qPass S g) := by
  have hg := zWf_ng h ho
  have hn : zng (qGoes S g (qSide S g)) = zng S := zX7_goes.ng
  unfold qPass
  split
  · refine qLess_pad h ho hg (zWa_tG (zWa_goes h.a) (Or.inr rfl)) (zX7_goes.tr (zX7.rf rfl)) (fun k hk => ?_) (fun k hk => qGoes_Lk hk) ?_ ?_ ?_ ?_ ?_
    · funext j; rw [tG_G, if_neg (fun z => hk z.1), qGoes_G]
    · rw [tG_G, if_neg (by omega), qGoes_G]
    · rw [tG_G, if_neg (by omega), qGoes_G]
    · rw [tG_G, if_neg (by omega), qGoes_G]
    · rw [tG_G, if_pos ⟨rfl, rfl⟩]
    · rw [tG_G, if_neg (by omega), qGoes_G]
  · rename_i hd
    have hd0 : sG S g 3 = 0 := by
      obtain ⟨-, -, ⟨-, -, q⟩ | ⟨o, -, -, -, ⟨-, q | ⟨q, -⟩⟩ | ⟨-, q | ⟨q, -⟩⟩⟩⟩ := h.pad g <;> first | exact q | exact absurd q hd
    split
    · refine qLess_pad h ho hg (zWa_tG (zWa_tX (zWa_goes h.a) (by decide)) (Or.inl ?_)) ((zX7_goes.tr (zX7.tX (by decide))).tr (zX7.rf rfl)) (fun k hk => ?_) (fun k hk => qGoes_Lk hk) ?_ ?_ ?_ ?_ ?_
      · rw [((zX7_goes (S := S) (g := g) (s := qSide S g)).tr (zX7.tX (i := 11) (v := sX (qGoes S g (qSide S g)) 11 + 1) (by decide))).ng]; exact hg
      · funext j; unfold qFoll; rw [tG_G, if_neg (fun z => hk z.1), tX_G, qGoes_G]
      · unfold qFoll; rw [tG_G, if_neg (by omega), tX_G, qGoes_G]
      · unfold qFoll; rw [tG_G, if_neg (by omega), tX_G, qGoes_G]
      · unfold qFoll; rw [tG_G, if_neg (by omega), tX_G, qGoes_G]
      · unfold qFoll; rw [tG_G, if_neg (by omega), tX_G, qGoes_G]; exact hd0
      · unfold qFoll; rw [tG_G, if_neg (by omega), tX_G, qGoes_G]
    · exact qLess_pad h ho hg h.a (zX7.rf rfl) (fun _ _ => rfl) (fun _ _ => rfl) rfl rfl rfl hd0 rfl
theorem qAway_G {S : zS} {s : Nat} : sG (qAway S s) = sG S := by unfold qAway; split <;> rfl
theorem qAway_L {S : zS} {s : Nat} : sL (qAway S s) = sL S := by unfold qAway; split <;> rfl
theorem zWa_away {S : zS} {s : Nat} (h : zWa S) : zWa (qAway S s) := by
  unfold qAway
  split
  · exact zWa_tX (zWa_tX (zWa_tX h (by decide)) (by decide)) (by decide)
  · exact zWa_tX h (by decide)
theorem zX7_away {S : zS} {s : Nat} : zX7 S (qAway S s) := by
  unfold qAway
  split
  · exact ((zX7.tX (by decide)).tr (zX7.tX (by decide))).tr (zX7.tX (by decide))
  · exact zX7.tX (by decide)
theorem qOpened_G {S : zS} {g s k j : Nat} (h : k ≠ g) : sG (qOpened S g s) k j = sG S k j := by
  unfold qOpened
  simp only [tG_G, if_neg (fun z : k = g ∧ j = 1 => h z.1), if_neg (fun z : k = g ∧ j = 2 => h z.1), if_neg (fun z : k = g ∧ j = 3 => h z.1), if_neg (fun z : k = g ∧ j = 5 => h z.1), if_neg (fun z : k = g ∧ j = 6 => h z.1)]
theorem qOpened_g {S : zS} {g s : Nat} : sG (qOpened S g s) g 0 = sG S g 0 ∧ sG (qOpened S g s) g 1 = sX S 0 ∧ sG (qOpened S g s) g 2 = nI (s + 1) ∧ sG (qOpened S g s) g 3 = 1 ∧ sG (qOpened S g s) g 6 = nI (s + 1) := by
  unfold qOpened
  simp [tG_G]
theorem zWa_opened {S : zS} {g s : Nat} (h : zWa S) (hg : g < zng S) : zWa (qOpened S g s) := by
  unfold qOpened
  exact zWa_tG (zWa_tG (zWa_tG (zWa_tG (zWa_tG h (Or.inl hg)) (Or.inl hg)) (Or.inl hg)) (Or.inl hg)) (Or.inl hg)
theorem zWf_open {S : zS} {g : Nat} (h : zWf S) (hp : ¬ zPan S) (ho : sG S g 2 = 0) : zWf (qOpen S g) := by
  unfold qOpen
  split
  · rename_i hk
    have hg : g < zng S := by
      rcases Nat.lt_or_ge g (zng S) with q | q
      · exact q
      · rw [(h.blank g q).2 (qTurn S g)] at hk; exact absurd hk (Nat.not_lt_zero _)
    unfold qOpenAt
    split
    · have hT : ∀ w, zX7 S (qOpened (tL S g (qTurn S g) w) g (qTurn S g)) := fun w => zX7.rf rfl
      refine zWf_mk (zWa_opened (zWa_front h.a hk) hg) (fun k => ?_) (fun z => absurd ((hT _).pan.mp z) hp)
      by_cases e : k = g
      · subst e
        obtain ⟨g0, g1, g2, g3, g6⟩ := qOpened_g (S := tL S k (qTurn S k) ((sL S k (qTurn S k)).getD (qFirst (sL S k (qTurn S k))) 0 :: (sL S k (qTurn S k)).eraseIdx (qFirst (sL S k (qTurn S k))))) (g := k) (s := qTurn S k)
        obtain ⟨hh, h1, h9, e0⟩ := h.hold
        have hl : sL (qOpened (tL S k (qTurn S k) ((sL S k (qTurn S k)).getD (qFirst (sL S k (qTurn S k))) 0 :: (sL S k (qTurn S k)).eraseIdx (qFirst (sL S k (qTurn S k))))) k (qTurn S k)) k (qTurn S k) ≠ [] := by
          show zu2 _ _ _ _ _ _ ≠ []
          rw [zu2_eq]; exact List.cons_ne_nil _ _
        unfold zPad
        rw [g0, g1, g2, g3, g6]
        refine ⟨(h.pad k).1, ?_, Or.inr ⟨hh, h1, h9, e0, ?_⟩⟩
        · rcases qTurn_lt (S := S) (g := k) with q | q <;> rw [q]
          · exact Or.inr (Or.inl rfl)
          · exact Or.inr (Or.inr rfl)
        · rcases qTurn_lt (S := S) (g := k) with q | q
          · rw [q] at hl ⊢
            exact Or.inl ⟨rfl, Or.inr ⟨rfl, hl⟩⟩
          · rw [q] at hl ⊢
            exact Or.inr ⟨rfl, Or.inr ⟨rfl, hl⟩⟩
      · refine zPad_of (h.pad k) (funext fun j => qOpened_G e) (Or.inr ?_)
        funext y
        exact zu2_ne (fun z => e z.1)
    · refine zWf_mk (zWa_away (zWa_erase h.a)) (fun k => ?_) (fun z => absurd (((zX7.rf rfl).tr zX7_away).pan.mp z) hp)
      by_cases e : k = g
      · subst e
        exact zPad_of (h.pad k) (by rw [qAway_G]; rfl) (Or.inl (zPad_shut (h.pad k) ho).2)
      · refine zPad_of (h.pad k) (by rw [qAway_G]; rfl) (Or.inr ?_)
        rw [qAway_L]
        funext y
        exact zu2_ne (fun z => e z.1)
  · exact h
theorem zWf_live {S : zS} {g : Nat} (h : zWf S) : zWf (qLive S g) := by
  unfold qLive
  split
  · rename_i hp
    exact zWf_flee _ h (zPanB_iff.mp hp)
  · rename_i hp
    split
    · exact zWf_pass h (by assumption)
    · rename_i ho
      exact zWf_open h (fun z => hp (zPanB_iff.mpr z)) (Decidable.not_not.mp ho)
theorem zWf_gates {S : zS} (h : zWf S) : ∀ n, zWf (qGates S n)
  | 0 => h
  | n + 1 => zWf_live (zWf_gates h n)
theorem zWf_tX {S : zS} {i : Nat} {v : Int32} (h : zWf S) (hi : i ≠ 0 ∧ i ≠ 1 ∧ i ≠ 4 ∧ i ≠ 5 ∧ i ≠ 6 ∧ i ≠ 7 ∧ i ≠ 8) : zWf (tX S i v) :=
  zWf_mk (zWa_tX h.a hi) (fun k => zPad_of (h.pad k) rfl (Or.inr rfl)) (fun z k => h.pan ((zX7.tX hi).pan.mp z) k)
theorem zWf_tick {S : zS} (h : zWf S) : zWf (qTick S) := zWf_tX (zWf_gates h 6) (by decide)
theorem zWf_ticks {S : zS} (h : zWf S) : ∀ n, zWf (qTicks S n)
  | 0 => h
  | n + 1 => zWf_tick (zWf_ticks h n)
theorem qLive_blank {S : zS} {g : Nat} (h : zWf S) (hg : zng S ≤ g) : qLive S g = S := by
  have hb := h.blank g hg
  unfold qLive
  split
  · cases (sX S 1).toNatClampNeg with
    | zero => rfl
    | succ n => rw [qFlee, if_pos (hb.2 1)]
  · rw [if_neg (fun z => z (hb.1 2)), qOpen, hb.2 (qTurn S g)]
    rfl
