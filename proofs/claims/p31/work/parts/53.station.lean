/-! ===== the law's station, its gates ===== -/
/-- a field's number in X -/
def zss : Nat → Nat
  | 0 => 0 | 1 => 1 | 2 => 2 | 3 => 3 | 4 => 4 | 5 => 6 | i => i
/-- the places that are in use -/
def zvd (n m i : Nat) : Prop := i < 4 ∨ (4 ≤ i ∧ i < 4 + 5 * n) ∨ (40 ≤ i ∧ i < 40 + m)
/-- where a station's parts lie: 0 itself, 1 its gates' array, 2 its cards' array, 3 its keys; 4 + 5 g a gate, 5 + 5 g its line outside, 6 + 5 g that line's cards, 7 + 5 g its line inside, 8 + 5 g that line's; 40 + c a card -/
def zSh (K : zKt) (A : Nat → Nat) (n m : Nat) : Prop := (∀ i j : Nat, A i = A j → i = j) ∧ (K.1 (A 0) = some 17 ∧ K.2 (A 0) 5 = some (A 1) ∧ K.2 (A 0) 7 = some (A 2) ∧ K.2 (A 0) 8 = some (A 3)) ∧
  (∀ g : Nat, g < n → K.2 (A 1) g = some (A (4 + 5 * g)) ∧ K.2 (A (4 + 5 * g)) 7 = some (A (5 + 5 * g)) ∧ K.2 (A (4 + 5 * g)) 8 = some (A (7 + 5 * g)) ∧ K.2 (A (5 + 5 * g)) 1 = some (A (6 + 5 * g)) ∧ K.2 (A (7 + 5 * g)) 1 = some (A (8 + 5 * g))) ∧
  (∀ c : Nat, c < m → K.2 (A 2) c = some (A (40 + c))) ∧ (n ≤ 6 ∧ m ≤ 12) ∧ ∀ i : Nat, zvd n m i → ∃ k : Nat, K.1 (A i) = some k
/-- the station at A holds S: n gates, m cards (the names and X 15 it doesn't keep) -/
def zSt (I : zI) (A : Nat → Nat) (n m : Nat) (S : zS) : Prop := (n ≤ 6 ∧ m ≤ 12) ∧ (sX S 4 = nI n ∧ sX S 5 = nI m) ∧ (∀ i : Nat, i < 15 → (i < 6 ∨ 9 ≤ i) → I (A 0) (zss i) = sX S i) ∧ (∀ k : Nat, k < 3 → I (A 3) k = sX S (6 + k)) ∧
  (∀ g : Nat, g < n → (∀ j : Nat, j < 7 → I (A (4 + 5 * g)) j = zgv j (sG S g j)) ∧ zLm I (A (5 + 5 * g)) (A (6 + 5 * g)) (sL S g 0) ∧ zLm I (A (7 + 5 * g)) (A (8 + 5 * g)) (sL S g 1)) ∧
  (∀ c : Nat, c < m → ∀ j : Nat, j < 4 → I (A (40 + c)) j = sC S c j)
/-- nothing but the station has changed -/
def zgA (I I' : zI) (A : Nat → Nat) (n m : Nat) : Prop := ∀ q : Nat, (∀ i : Nat, zvd n m i → q ≠ A i) → I' q = I q
theorem zgA.rf {I : zI} {A : Nat → Nat} {n m : Nat} : zgA I I A n m := fun _ _ => rfl
theorem zgA.put {I I' : zI} {A : Nat → Nat} {n m i j : Nat} {x : Int32} (h : zgA I I' A n m) (hi : zvd n m i) : zgA I (zput I' (A i) j x) A n m := fun q hq => (zput_nq (hq i hi)).trans (h q hq)
theorem zgA.two {I I' I2 : zI} {A : Nat → Nat} {n m i j : Nat} (h : zgA I I' A n m) (g : zg2 I' I2 (A i) (A j)) (hi : zvd n m i) (hj : zvd n m j) : zgA I I2 A n m := fun q hq => (g q (hq i hi) (hq j hj)).trans (h q hq)
theorem zgA.tr {I I' I2 : zI} {A : Nat → Nat} {n m : Nat} (h : zgA I I' A n m) (g : zgA I' I2 A n m) : zgA I I2 A n m := fun q hq => (g q hq).trans (h q hq)
theorem zSt.on {I J : zI} {A : Nat → Nat} {n m : Nat} {S : zS} (h : zSt I A n m S) (e : ∀ i : Nat, zvd n m i → J (A i) = I (A i)) : zSt J A n m S := by
  obtain ⟨h1, h2, h3, h4, h5, h6⟩ := h
  refine ⟨h1, h2, fun i a b => by rw [e _ (by unfold zvd; omega)]; exact h3 i a b, fun k a => by rw [e _ (by unfold zvd; omega)]; exact h4 k a, fun g a => ⟨fun j b => by rw [e _ (by unfold zvd; omega)]; exact (h5 g a).1 j b, (h5 g a).2.1.kept (e _ (by unfold zvd; omega)) (e _ (by unfold zvd; omega)), (h5 g a).2.2.kept (e _ (by unfold zvd; omega)) (e _ (by unfold zvd; omega))⟩, fun c a j b => by rw [e _ (by unfold zvd; omega)]; exact h6 c a j b⟩
theorem zSt_X {I : zI} {A : Nat → Nat} {n m i : Nat} {S : zS} {v : Int32} (hA : ∀ i j : Nat, A i = A j → i = j) (h : zSt I A n m S) (hi : i < 15) (hs : i < 4 ∨ 9 ≤ i) : zSt (zput I (A 0) (zss i) v) A n m (tX S i v) := by
  obtain ⟨h1, h2, h3, h4, h5, h6⟩ := h
  have o : ∀ q : Nat, q ≠ 0 → zput I (A 0) (zss i) v (A q) = I (A q) := fun q hq => zput_nq (fun z => hq (hA _ _ z))
  have hinj : ∀ k : Nat, k < 15 → (k < 6 ∨ 9 ≤ k) → k ≠ i → zss k ≠ zss i := by
    have h9 : ∀ k : Nat, k < 15 → ∀ j : Nat, j < 15 → (decide (k < 6 ∨ 9 ≤ k) && decide (j < 4 ∨ 9 ≤ j) && decide (k ≠ j)) = true → zss k ≠ zss j := by decide
    exact fun k hk h6 hn => h9 k hk i hi (by simp only [Bool.and_eq_true, decide_eq_true_eq]; exact ⟨⟨h6, hs⟩, hn⟩)
  refine ⟨h1, ⟨by rw [tX_X, if_neg (by omega)]; exact h2.1, by rw [tX_X, if_neg (by omega)]; exact h2.2⟩, fun k a b => ?_, fun k a => ?_, fun g a => ⟨fun j b => ?_, (h5 g a).2.1.kept (o _ (by omega)) (o _ (by omega)), (h5 g a).2.2.kept (o _ (by omega)) (o _ (by omega))⟩, fun c a j b => ?_⟩
  · rw [tX_X]
    split
    · rename_i e; subst e; exact zput_eq
    · rename_i e; rw [zput_nj (hinj k a b e)]; exact h3 k a b
  · rw [o 3 (by omega), tX_X, if_neg (by omega)]; exact h4 k a
  · rw [o _ (by omega)]; exact (h5 g a).1 j b
  · rw [o _ (by omega)]; exact h6 c a j b
theorem zSt_K {I : zI} {A : Nat → Nat} {n m k : Nat} {S : zS} {v : Int32} (hA : ∀ i j : Nat, A i = A j → i = j) (h : zSt I A n m S) (hk : k < 3) : zSt (zput I (A 3) k v) A n m (tX S (6 + k) v) := by
  obtain ⟨h1, h2, h3, h4, h5, h6⟩ := h
  have o : ∀ q : Nat, q ≠ 3 → zput I (A 3) k v (A q) = I (A q) := fun q hq => zput_nq (fun z => hq (hA _ _ z))
  refine ⟨h1, ⟨by rw [tX_X, if_neg (by omega)]; exact h2.1, by rw [tX_X, if_neg (by omega)]; exact h2.2⟩, fun i a b => ?_, fun k9 a => ?_, fun g a => ⟨fun j b => ?_, (h5 g a).2.1.kept (o _ (by omega)) (o _ (by omega)), (h5 g a).2.2.kept (o _ (by omega)) (o _ (by omega))⟩, fun c a j b => ?_⟩
  · rw [o 0 (by omega), tX_X, if_neg (by omega)]; exact h3 i a b
  · rw [tX_X]
    by_cases e : k9 = k
    · subst e; rw [if_pos rfl]; exact zput_eq
    · rw [if_neg (by omega), zput_nj e]; exact h4 k9 a
  · rw [o _ (by omega)]; exact (h5 g a).1 j b
  · rw [o _ (by omega)]; exact h6 c a j b
theorem zSt_G {I : zI} {A : Nat → Nat} {n m g j : Nat} {S : zS} {v x : Int32} (hA : ∀ i j : Nat, A i = A j → i = j) (h : zSt I A n m S) (hg : g < n) (hj : j < 7) (hx : x = zgv j v) : zSt (zput I (A (4 + 5 * g)) j x) A n m (tG S g j v) := by
  obtain ⟨h1, h2, h3, h4, h5, h6⟩ := h
  have o : ∀ q : Nat, q ≠ 4 + 5 * g → zput I (A (4 + 5 * g)) j x (A q) = I (A q) := fun q hq => zput_nq (fun z => hq (hA _ _ z))
  refine ⟨h1, h2, fun i a b => by rw [o 0 (by omega)]; exact h3 i a b, fun k a => by rw [o 3 (by omega)]; exact h4 k a, fun g9 a => ⟨fun j9 b => ?_, (h5 g9 a).2.1.kept (o _ (by omega)) (o _ (by omega)), (h5 g9 a).2.2.kept (o _ (by omega)) (o _ (by omega))⟩, fun c a j9 b => by rw [o _ (by omega)]; exact h6 c a j9 b⟩
  rw [tG_G]
  by_cases e : g9 = g
  · subst e
    by_cases e2 : j9 = j
    · subst e2; rw [if_pos ⟨rfl, rfl⟩, zput_eq]; exact hx
    · rw [if_neg (fun z => e2 z.2), zput_nj e2]; exact (h5 g9 a).1 j9 b
  · rw [if_neg (fun z => e z.1), o _ (by omega)]; exact (h5 g9 a).1 j9 b
theorem zSt_C {I : zI} {A : Nat → Nat} {n m c j : Nat} {S : zS} {v : Int32} (hA : ∀ i j : Nat, A i = A j → i = j) (h : zSt I A n m S) (hc : c < m) (hj : j < 4) : zSt (zput I (A (40 + c)) j v) A n m (tC S c j v) := by
  obtain ⟨h1, h2, h3, h4, h5, h6⟩ := h
  have o : ∀ q : Nat, q ≠ 40 + c → zput I (A (40 + c)) j v (A q) = I (A q) := fun q hq => zput_nq (fun z => hq (hA _ _ z))
  refine ⟨h1, h2, fun i a b => by rw [o 0 (by omega)]; exact h3 i a b, fun k a => by rw [o 3 (by omega)]; exact h4 k a, fun g9 a => ⟨fun j9 b => by rw [o _ (by omega)]; exact (h5 g9 a).1 j9 b, (h5 g9 a).2.1.kept (o _ (by omega)) (o _ (by omega)), (h5 g9 a).2.2.kept (o _ (by omega)) (o _ (by omega))⟩, fun c9 a j9 b => ?_⟩
  show _ = zu2 (sC S) c j v c9 j9
  by_cases e : c9 = c ∧ j9 = j
  · obtain ⟨rfl, rfl⟩ := e; rw [zu2_eq]; exact zput_eq
  · rw [zu2_ne e]
    by_cases e2 : c9 = c
    · subst e2; rw [zput_nj (fun z => e ⟨rfl, z⟩)]; exact h6 c9 a j9 b
    · rw [o _ (by omega)]; exact h6 c9 a j9 b
theorem zSt_L {I I' : zI} {A : Nat → Nat} {n m g s la lb : Nat} {S : zS} {w : List Nat} (hA : ∀ i j : Nat, A i = A j → i = j) (h : zSt I A n m S) (hg : g < n) (hs : (s = 0 ∧ la = 5 + 5 * g ∧ lb = 6 + 5 * g) ∨ (s = 1 ∧ la = 7 + 5 * g ∧ lb = 8 + 5 * g)) (g2 : zg2 I I' (A la) (A lb)) (hn : zLm I' (A la) (A lb) w) : zSt I' A n m (tL S g s w) := by
  obtain ⟨h1, h2, h3, h4, h5, h6⟩ := h
  have o : ∀ q : Nat, q ≠ la → q ≠ lb → I' (A q) = I (A q) := fun q hq hq2 => g2 _ (fun z => hq (hA _ _ z)) (fun z => hq2 (hA _ _ z))
  refine ⟨h1, h2, fun i a b => by rw [o 0 (by omega) (by omega)]; exact h3 i a b, fun k a => by rw [o 3 (by omega) (by omega)]; exact h4 k a, fun g9 a => ⟨fun j9 b => by rw [o _ (by omega) (by omega)]; exact (h5 g9 a).1 j9 b, ?_, ?_⟩, fun c a j9 b => by rw [o _ (by omega) (by omega)]; exact h6 c a j9 b⟩
  · rw [tL_L]
    by_cases e : g9 = g ∧ 0 = s
    · rw [if_pos e]
      obtain ⟨rfl, rfl⟩ := e
      rcases hs with ⟨-, rfl, rfl⟩ | ⟨z, -⟩
      · exact hn
      · cases z
    · rw [if_neg e]; exact (h5 g9 a).2.1.kept (o _ (by omega) (by omega)) (o _ (by omega) (by omega))
  · rw [tL_L]
    by_cases e : g9 = g ∧ 1 = s
    · rw [if_pos e]
      obtain ⟨rfl, rfl⟩ := e
      rcases hs with ⟨z, -⟩ | ⟨-, rfl, rfl⟩
      · cases z
      · exact hn
    · rw [if_neg e]; exact (h5 g9 a).2.2.kept (o _ (by omega) (by omega)) (o _ (by omega) (by omega))
theorem zSt.ng {I : zI} {A : Nat → Nat} {n m : Nat} {S : zS} (h : zSt I A n m S) : zng S = n := by
  unfold zng; rw [h.2.1.1]; exact nI_clamp (by have := h.1.1; omega)
theorem zSt.nc {I : zI} {A : Nat → Nat} {n m : Nat} {S : zS} (h : zSt I A n m S) : znc S = m := by
  unfold znc; rw [h.2.1.2]; exact nI_clamp (by have := h.1.2; omega)
abbrev zrm_X9_line : Room := { frames := 0, cells := 0, slots := 0, locals := 0 }
set_option maxRecDepth 20000 in
theorem zp0_X9_line {l : Launch} {D : va_G} {b0 : Nat} {tA : Nat → ClassId} {sa sv : Nat → Nat} {K : zKt} {I : zI} {Qp : zI → Option AV → Prop} {Xp : String → zI → Prop} {A : Nat → Nat} {n7 m7 g : Nat}
    (hS : zSh K A n7 m7) (hg : g < n7) (k1 : Qp I (some (vr (A (5 + 5 * g)) 15))) :
    zC l D b0 tA sa sv K yX9_line (.code yX9_line cX9_line 2 (some (.object "GateRowLaw$Line"))) zrm_X9_line [vr (A (4 + 5 * g)) 14, vi ((0 : Int32))] I Qp Xp := by
  refine zC_of (by decide +kernel) (Nat.le_of_ble_eq_true rfl) ?_
  intro p e s m args below meth c X hnt
  have X : zX p l e zrm_X9_line s m args below meth c RX9 cX9_line 2 (some (.object "GateRowLaw$Line")) D b0 tA sa sv := X
  refine zr_lv (lv2 := [some (vr (A (4 + 5 * g)) 14), some (vi ((0 : Int32)))]) rfl ?_
  refine zr_iload1 X dX9_line_0 ?_
  refine zr_if_ne (tgt := 11) X dX9_line_1 (by decide) (fun h => absurd h (by decide)) (fun _ => ?_)
  refine zr_aload0 X dX9_line_4 ?_
  refine zr_getD (r := A (5 + 5 * g)) X zf_X9_32 rfl (by decide) ((hS.2.2.1 g (by omega)).2.1) dX9_line_5 ?_
  refine zr_goto (tgt := 15) X dX9_line_8 (by decide) ?_
  refine zr_aret X (by decide) (by decide) dX9_line_15 ?_
  exact k1
set_option maxRecDepth 20000 in
theorem zp1_X9_line {l : Launch} {D : va_G} {b0 : Nat} {tA : Nat → ClassId} {sa sv : Nat → Nat} {K : zKt} {I : zI} {Qp : zI → Option AV → Prop} {Xp : String → zI → Prop} {A : Nat → Nat} {n7 m7 g : Nat}
    (hS : zSh K A n7 m7) (hg : g < n7) (k1 : Qp I (some (vr (A (7 + 5 * g)) 15))) :
    zC l D b0 tA sa sv K yX9_line (.code yX9_line cX9_line 2 (some (.object "GateRowLaw$Line"))) zrm_X9_line [vr (A (4 + 5 * g)) 14, vi ((1 : Int32))] I Qp Xp := by
  refine zC_of (by decide +kernel) (Nat.le_of_ble_eq_true rfl) ?_
  intro p e s m args below meth c X hnt
  have X : zX p l e zrm_X9_line s m args below meth c RX9 cX9_line 2 (some (.object "GateRowLaw$Line")) D b0 tA sa sv := X
  refine zr_lv (lv2 := [some (vr (A (4 + 5 * g)) 14), some (vi ((1 : Int32)))]) rfl ?_
  refine zr_iload1 X dX9_line_0 ?_
  refine zr_if_ne (tgt := 11) X dX9_line_1 (by decide) (fun _ => ?_) (fun h => absurd h (by decide))
  refine zr_aload0 X dX9_line_11 ?_
  refine zr_getD (r := A (7 + 5 * g)) X zf_X9_36 rfl (by decide) ((hS.2.2.1 g (by omega)).2.2.1) dX9_line_12 ?_
  refine zr_aret X (by decide) (by decide) dX9_line_15 ?_
  exact k1
theorem nI_one : nI 1 = (1 : Int32) := rfl
abbrev zrm_X9_serves : Room := { frames := 0, cells := 0, slots := 0, locals := 0 }
set_option maxRecDepth 20000 in
theorem zp0_X9_serves {l : Launch} {D : va_G} {b0 : Nat} {tA : Nat → ClassId} {sa sv : Nat → Nat} {K : zKt} {I : zI} {Qp : zI → Option AV → Prop} {Xp : String → zI → Prop} {A : Nat → Nat} {n7 m7 g : Nat} {S : zS}
    (hS : zSh K A n7 m7) (hM : zSt I A n7 m7 S) (hg : g < n7) (k1 : qSv (sG S g 0) 0 → Qp I (some (vi 1))) (k2 : ¬ qSv (sG S g 0) 0 → Qp I (some (vi 0))) :
    zC l D b0 tA sa sv K yX9_serves (.code yX9_serves cX9_serves 2 (some .boolean)) zrm_X9_serves [vr (A (4 + 5 * g)) 14, vi ((0 : Int32))] I Qp Xp := by
  have hA := hS.1
  have hn6 := hM.1.1
  have hm12 := hM.1.2
  refine zC_of (by decide +kernel) (Nat.le_of_ble_eq_true rfl) ?_
  intro p e s m args below meth c X hnt
  have X : zX p l e zrm_X9_serves s m args below meth c RX9 cX9_serves 2 (some .boolean) D b0 tA sa sv := X
  refine zr_lv (lv2 := [some (vr (A (4 + 5 * g)) 14), some (vi ((0 : Int32)))]) rfl ?_
  refine zr_aload0 X dX9_serves_0 ?_
  refine zr_getI X zf_X9_39 rfl dX9_serves_1 ?_
  refine zr_eq (x2 := (sG S g 0)) ((hM.2.2.2.2.1 g (by omega)).1 0 (by decide)) ?_
  refine zr_iconst (v := (2 : Int32)) X dX9_serves_4 (by decide) ?_
  refine zr_icmp_eq (tgt := 32) X dX9_serves_5 (by decide) (fun h1 => ?_) (fun h1 => ?_)
  · skip
    refine zr_iconst (v := (1 : Int32)) X dX9_serves_32 (by decide) ?_
    refine zr_goto (tgt := 37) X dX9_serves_33 (by decide) ?_
    refine zr_zret X (by first | decide | assumption | (simp; done)) (by decide) (by decide) dX9_serves_37 ?_
    exact k1 (by simp only [qSv, nI_0, nI_one] at *; simp_all)
  · skip
    refine zr_iload1 X dX9_serves_8 ?_
    refine zr_if_ne (tgt := 19) X dX9_serves_9 (by decide) (fun h => absurd h (by decide)) (fun _ => ?_)
    refine zr_aload0 X dX9_serves_12 ?_
    refine zr_getI X zf_X9_39 rfl dX9_serves_13 ?_
    refine zr_eq (x2 := (sG S g 0)) ((hM.2.2.2.2.1 g (by omega)).1 0 (by decide)) ?_
    refine zr_if_eq (tgt := 32) X dX9_serves_16 (by decide) (fun h2 => ?_) (fun h2 => ?_)
    · skip
      refine zr_iconst (v := (1 : Int32)) X dX9_serves_32 (by decide) ?_
      refine zr_goto (tgt := 37) X dX9_serves_33 (by decide) ?_
      refine zr_zret X (by first | decide | assumption | (simp; done)) (by decide) (by decide) dX9_serves_37 ?_
      exact k1 (by simp only [qSv, nI_0, nI_one] at *; simp_all)
    · skip
      refine zr_iload1 X dX9_serves_19 ?_
      refine zr_iconst (v := (1 : Int32)) X dX9_serves_20 (by decide) ?_
      refine zr_icmp_ne (tgt := 36) X dX9_serves_21 (by decide) (fun _ => ?_) (fun h => absurd h (by decide))
      refine zr_iconst (v := (0 : Int32)) X dX9_serves_36 (by decide) ?_
      refine zr_zret X (by first | decide | assumption | (simp; done)) (by decide) (by decide) dX9_serves_37 ?_
      exact k2 (by simp only [qSv, nI_0, nI_one] at *; simp_all)
set_option maxRecDepth 20000 in
theorem zp1_X9_serves {l : Launch} {D : va_G} {b0 : Nat} {tA : Nat → ClassId} {sa sv : Nat → Nat} {K : zKt} {I : zI} {Qp : zI → Option AV → Prop} {Xp : String → zI → Prop} {A : Nat → Nat} {n7 m7 g : Nat} {S : zS}
    (hS : zSh K A n7 m7) (hM : zSt I A n7 m7 S) (hg : g < n7) (k1 : qSv (sG S g 0) 1 → Qp I (some (vi 1))) (k2 : ¬ qSv (sG S g 0) 1 → Qp I (some (vi 0))) :
    zC l D b0 tA sa sv K yX9_serves (.code yX9_serves cX9_serves 2 (some .boolean)) zrm_X9_serves [vr (A (4 + 5 * g)) 14, vi ((1 : Int32))] I Qp Xp := by
  have hA := hS.1
  have hn6 := hM.1.1
  have hm12 := hM.1.2
  refine zC_of (by decide +kernel) (Nat.le_of_ble_eq_true rfl) ?_
  intro p e s m args below meth c X hnt
  have X : zX p l e zrm_X9_serves s m args below meth c RX9 cX9_serves 2 (some .boolean) D b0 tA sa sv := X
  refine zr_lv (lv2 := [some (vr (A (4 + 5 * g)) 14), some (vi ((1 : Int32)))]) rfl ?_
  refine zr_aload0 X dX9_serves_0 ?_
  refine zr_getI X zf_X9_39 rfl dX9_serves_1 ?_
  refine zr_eq (x2 := (sG S g 0)) ((hM.2.2.2.2.1 g (by omega)).1 0 (by decide)) ?_
  refine zr_iconst (v := (2 : Int32)) X dX9_serves_4 (by decide) ?_
  refine zr_icmp_eq (tgt := 32) X dX9_serves_5 (by decide) (fun h1 => ?_) (fun h1 => ?_)
  · skip
    refine zr_iconst (v := (1 : Int32)) X dX9_serves_32 (by decide) ?_
    refine zr_goto (tgt := 37) X dX9_serves_33 (by decide) ?_
    refine zr_zret X (by first | decide | assumption | (simp; done)) (by decide) (by decide) dX9_serves_37 ?_
    exact k1 (by simp only [qSv, nI_0, nI_one] at *; simp_all)
  · skip
    refine zr_iload1 X dX9_serves_8 ?_
    refine zr_if_ne (tgt := 19) X dX9_serves_9 (by decide) (fun _ => ?_) (fun h => absurd h (by decide))
    refine zr_iload1 X dX9_serves_19 ?_
    refine zr_iconst (v := (1 : Int32)) X dX9_serves_20 (by decide) ?_
    refine zr_icmp_ne (tgt := 36) X dX9_serves_21 (by decide) (fun h => absurd h (by decide)) (fun _ => ?_)
    refine zr_aload0 X dX9_serves_24 ?_
    refine zr_getI X zf_X9_39 rfl dX9_serves_25 ?_
    refine zr_eq (x2 := (sG S g 0)) ((hM.2.2.2.2.1 g (by omega)).1 0 (by decide)) ?_
    refine zr_iconst (v := (1 : Int32)) X dX9_serves_28 (by decide) ?_
    refine zr_icmp_ne (tgt := 36) X dX9_serves_29 (by decide) (fun h2 => ?_) (fun h2 => ?_)
    · skip
      refine zr_iconst (v := (0 : Int32)) X dX9_serves_36 (by decide) ?_
      refine zr_zret X (by first | decide | assumption | (simp; done)) (by decide) (by decide) dX9_serves_37 ?_
      exact k2 (by simp only [qSv, nI_0, nI_one] at *; simp_all)
    · skip
      refine zr_iconst (v := (1 : Int32)) X dX9_serves_32 (by decide) ?_
      refine zr_goto (tgt := 37) X dX9_serves_33 (by decide) ?_
      refine zr_zret X (by first | decide | assumption | (simp; done)) (by decide) (by decide) dX9_serves_37 ?_
      exact k1 (by simp only [qSv, nI_0, nI_one] at *; simp_all)
abbrev zrm_X9_close : Room := { frames := 0, cells := 0, slots := 0, locals := 0 }
set_option maxRecDepth 20000 in
theorem zp_X9_close {l : Launch} {D : va_G} {b0 : Nat} {tA : Nat → ClassId} {sa sv : Nat → Nat} {K : zKt} {I : zI} {Qp : zI → Option AV → Prop} {Xp : String → zI → Prop} {A : Nat → Nat} {n7 m7 g : Nat} {S : zS}
    (hS : zSh K A n7 m7) (hM : zSt I A n7 m7 S) (hg : g < n7) (k1 : ∀ J : zI, zgA I J A n7 m7 → zSt J A n7 m7 (tG (tG (tG S g 1 0) g 2 0) g 3 0) → Qp J none) :
    zC l D b0 tA sa sv K yX9_close (.code yX9_close cX9_close 1 none) zrm_X9_close [vr (A (4 + 5 * g)) 14] I Qp Xp := by
  have hA := hS.1
  have hn6 := hM.1.1
  have hm12 := hM.1.2
  have hv9 : zvd n7 m7 (4 + 5 * g) := Or.inr (Or.inl ⟨by omega, by omega⟩)
  refine zC_of (by decide +kernel) (Nat.le_of_ble_eq_true rfl) ?_
  intro p e s m args below meth c X hnt
  have X : zX p l e zrm_X9_close s m args below meth c RX9 cX9_close 1 none D b0 tA sa sv := X
  refine zr_lv (lv2 := [some (vr (A (4 + 5 * g)) 14)]) rfl ?_
  refine zr_aload0 X dX9_close_0 ?_
  refine zr_iconst (v := (0 : Int32)) X dX9_close_1 (by decide) ?_
  refine zr_putI X zf_X9_7 rfl (Or.inl rfl) dX9_close_2 ?_
  have hM_1 : zSt _ A n7 m7 (tG S g 1 (0 : Int32)) := zSt_G hA hM (show g < n7 by omega) (j := 1) (v := (0 : Int32)) (x := (0 : Int32)) (by decide) (by first | rfl | decide | exact (zside _).symm | exact (zside6 _).symm)
  refine zr_aload0 X dX9_close_5 ?_
  refine zr_iconst (v := (-1 : Int32)) X dX9_close_6 (by decide) ?_
  refine zr_putI X zf_X9_13 rfl (Or.inl rfl) dX9_close_7 ?_
  have hM_2 : zSt _ A n7 m7 (tG (tG S g 1 (0 : Int32)) g 2 (0 : Int32)) := zSt_G hA hM_1 (show g < n7 by omega) (j := 2) (v := (0 : Int32)) (x := (-1 : Int32)) (by decide) (by first | rfl | decide | exact (zside _).symm | exact (zside6 _).symm)
  refine zr_aload0 X dX9_close_10 ?_
  refine zr_iconst (v := (0 : Int32)) X dX9_close_11 (by decide) ?_
  refine zr_putI X zf_X9_16 rfl (Or.inr (by first | decide | assumption | (simp; done))) dX9_close_12 ?_
  have hM_3 : zSt _ A n7 m7 (tG (tG (tG S g 1 (0 : Int32)) g 2 (0 : Int32)) g 3 (0 : Int32)) := zSt_G hA hM_2 (show g < n7 by omega) (j := 3) (v := (0 : Int32)) (x := (0 : Int32)) (by decide) (by first | rfl | decide | exact (zside _).symm | exact (zside6 _).symm)
  refine zr_vret X (by decide) (by decide) dX9_close_15 ?_
  exact k1 _ (zgA.put (zgA.put (zgA.put zgA.rf hv9) hv9) hv9) hM_3
theorem zlat {x : Int32} : x - 1 = 0 ↔ x = 1 := ⟨fun h => by have := congrArg (fun z => z + 1) h; simpa using this, fun h => by rw [h]; rfl⟩
abbrev zrm_X9_next : Room := { frames := 0, cells := 0, slots := 0, locals := 0 }
set_option maxRecDepth 20000 in
theorem zp_X9_next {l : Launch} {D : va_G} {b0 : Nat} {tA : Nat → ClassId} {sa sv : Nat → Nat} {K : zKt} {I : zI} {Qp : zI → Option AV → Prop} {Xp : String → zI → Prop} {A : Nat → Nat} {n7 m7 g : Nat} {S : zS}
    (hS : zSh K A n7 m7) (hM : zSt I A n7 m7 S) (hg : g < n7) (hl : ∀ s, (sL S g s).length ≤ 10) (k1 : Qp I (some (vi (nI (qTurn S g))))) :
    zC l D b0 tA sa sv K yX9_next (.code yX9_next cX9_next 1 (some .int)) zrm_X9_next [vr (A (4 + 5 * g)) 14] I Qp Xp := by
  have hA := hS.1
  have hn6 := hM.1.1
  have hm12 := hM.1.2
  have hl0 := hl 0
  have hl1 := hl 1
  refine zC_of (by decide +kernel) (Nat.le_of_ble_eq_true rfl) ?_
  intro p e s m args below meth c X hnt
  have X : zX p l e zrm_X9_next s m args below meth c RX9 cX9_next 1 (some .int) D b0 tA sa sv := X
  refine zr_lv (lv2 := [some (vr (A (4 + 5 * g)) 14)]) rfl ?_
  refine zr_aload0 X dX9_next_0 ?_
  refine zr_getI X zf_X9_39 rfl dX9_next_1 ?_
  refine zr_eq (x2 := (sG S g 0)) ((hM.2.2.2.2.1 g (by omega)).1 0 (by decide)) ?_
  refine zr_if_ne (tgt := 9) X dX9_next_4 (by decide) (fun h1 => ?_) (fun h1 => ?_)
  · skip
    refine zr_aload0 X dX9_next_9 ?_
    refine zr_getI X zf_X9_39 rfl dX9_next_10 ?_
    refine zr_eq (x2 := (sG S g 0)) ((hM.2.2.2.2.1 g (by omega)).1 0 (by decide)) ?_
    refine zr_iconst (v := (1 : Int32)) X dX9_next_13 (by decide) ?_
    refine zr_icmp_ne (tgt := 19) X dX9_next_14 (by decide) (fun h2 => ?_) (fun h2 => ?_)
    · skip
      refine zr_aload0 X dX9_next_19 ?_
      refine zr_getD (r := A (5 + 5 * g)) X zf_X9_32 rfl (by decide) ((hS.2.2.1 g (by omega)).2.1) dX9_next_20 ?_
      refine zr_getI X zf_X9_42 rfl dX9_next_23 ?_
      refine zr_eq (x2 := (nI ((sL S g 0).length))) ((hM.2.2.2.2.1 g (by omega)).2.1.1) ?_
      refine zr_aload0 X dX9_next_26 ?_
      refine zr_getD (r := A (7 + 5 * g)) X zf_X9_36 rfl (by decide) ((hS.2.2.1 g (by omega)).2.2.1) dX9_next_27 ?_
      refine zr_getI X zf_X9_42 rfl dX9_next_30 ?_
      refine zr_eq (x2 := (nI ((sL S g 1).length))) ((hM.2.2.2.2.1 g (by omega)).2.2.1) ?_
      refine zr_nicmp_le X (((sL S g 0).length)) (((sL S g 1).length)) (tgt := 38) (by omega) (by omega) dX9_next_33 (by decide) (fun h3 => ?_) (fun h3 => ?_)
      · skip
        refine zr_aload0 X dX9_next_38 ?_
        refine zr_getD (r := A (5 + 5 * g)) X zf_X9_32 rfl (by decide) ((hS.2.2.1 g (by omega)).2.1) dX9_next_39 ?_
        refine zr_getI X zf_X9_42 rfl dX9_next_42 ?_
        refine zr_eq (x2 := (nI ((sL S g 0).length))) ((hM.2.2.2.2.1 g (by omega)).2.1.1) ?_
        refine zr_aload0 X dX9_next_45 ?_
        refine zr_getD (r := A (7 + 5 * g)) X zf_X9_36 rfl (by decide) ((hS.2.2.1 g (by omega)).2.2.1) dX9_next_46 ?_
        refine zr_getI X zf_X9_42 rfl dX9_next_49 ?_
        refine zr_eq (x2 := (nI ((sL S g 1).length))) ((hM.2.2.2.2.1 g (by omega)).2.2.1) ?_
        refine zr_nicmp_ge X (((sL S g 0).length)) (((sL S g 1).length)) (tgt := 57) (by omega) (by omega) dX9_next_52 (by decide) (fun h4 => ?_) (fun h4 => ?_)
        · skip
          refine zr_aload0 X dX9_next_57 ?_
          refine zr_getI X zf_X9_26 rfl dX9_next_58 ?_
          refine zr_eq (x2 := ((sG S g 6) - 1)) ((hM.2.2.2.2.1 g (by omega)).1 6 (by decide)) ?_
          refine zr_if_ne (tgt := 68) X dX9_next_61 (by decide) (fun h5 => ?_) (fun h5 => ?_)
          · skip
            refine zr_iconst (v := (0 : Int32)) X dX9_next_68 (by decide) ?_
            refine zr_iret X (by decide) (by decide) dX9_next_69 ?_
            have e9 : qTurn S g = 0 := by
              rw [qTurn, if_neg h1, if_neg h2]
              rw [if_neg (by omega), if_neg (by exact fun z => h5 (zlat.mpr z))]
            rw [e9] at k1; exact k1
          · skip
            refine zr_iconst (v := (1 : Int32)) X dX9_next_64 (by decide) ?_
            refine zr_goto (tgt := 69) X dX9_next_65 (by decide) ?_
            refine zr_iret X (by decide) (by decide) dX9_next_69 ?_
            have e9 : qTurn S g = 1 := by
              rw [qTurn, if_neg h1, if_neg h2]
              rw [if_neg (by omega), if_pos (by exact zlat.mp h5)]
            rw [e9] at k1; exact k1
        · skip
          refine zr_iconst (v := (1 : Int32)) X dX9_next_55 (by decide) ?_
          refine zr_iret X (by decide) (by decide) dX9_next_56 ?_
          have e9 : qTurn S g = 1 := by
            rw [qTurn, if_neg h1, if_neg h2]
            rw [if_pos (by omega), if_neg (by omega)]
          rw [e9] at k1; exact k1
      · skip
        refine zr_iconst (v := (0 : Int32)) X dX9_next_36 (by decide) ?_
        refine zr_iret X (by decide) (by decide) dX9_next_37 ?_
        have e9 : qTurn S g = 0 := by
          rw [qTurn, if_neg h1, if_neg h2]
          rw [if_pos (by omega), if_pos (by omega)]
        rw [e9] at k1; exact k1
    · skip
      refine zr_iconst (v := (1 : Int32)) X dX9_next_17 (by decide) ?_
      refine zr_iret X (by decide) (by decide) dX9_next_18 ?_
      have e9 : qTurn S g = 1 := by
        rw [qTurn, if_neg h1, if_pos h2]
      rw [e9] at k1; exact k1
  · skip
    refine zr_iconst (v := (0 : Int32)) X dX9_next_7 (by decide) ?_
    refine zr_iret X (by decide) (by decide) dX9_next_8 ?_
    have e9 : qTurn S g = 0 := by
      rw [qTurn, if_pos h1]
    rw [e9] at k1; exact k1
