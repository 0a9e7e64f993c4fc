/-! ===== the reference: its rows, and its smallest methods ===== -/
/-- the reference's array at a holds the line w of the gate g, side s -/
def zLm (I : zI) (a g s : Nat) (w : List Nat) : Prop := I a (16 + 29 * g + (7 + s)) = nI w.length ∧ w.length ≤ 10 ∧ ∀ p : Nat, p < w.length → I a (16 + 29 * g + (9 + 10 * s + p)) = nI (w.getD p 0)
/-- the reference's array at a holds S -/
def zMd (I : zI) (a : Nat) (S : zS) : Prop :=
  (∀ i : Nat, i < 16 → I a i = sX S i) ∧
  (∀ g : Nat, g < 6 → (∀ j : Nat, j < 7 → I a (16 + 29 * g + j) = sG S g j) ∧ ∀ s : Nat, s < 2 → zLm I a g s (sL S g s)) ∧
  (∀ c : Nat, c < 12 → (∀ j : Nat, j < 4 → I a (190 + 10 * c + j) = sC S c j) ∧ ∀ k : Nat, k < 6 → I a (190 + 10 * c + (4 + k)) = sM S c k)
theorem zMd.kept {I I' : zI} {a a' : Nat} {S : zS} (h : zMd I a S) (e : I' a' = I a) : zMd I' a' S := by
  unfold zMd zLm
  rw [e]; exact h
theorem zMd.ag {I I' : zI} {a lo n : Nat} {S : zS} (h : zMd I a S) (hg : zag I I' lo n) (ho : a < lo ∨ lo + n ≤ a) : zMd I' a S := h.kept (hg a (by omega))
theorem zMd.len {I : zI} {a : Nat} {S : zS} (h : zMd I a S) {g s : Nat} (hg : g < 6) (hs : s < 2) : (sL S g s).length ≤ 10 := ((h.2.1 g hg).2 s hs).2.1
theorem zLm.out {I I' : zI} {a g s : Nat} {w : List Nat} (h : zLm I a g s w) (e : ∀ i : Nat, i = 16 + 29 * g + (7 + s) ∨ (16 + 29 * g + (9 + 10 * s) ≤ i ∧ i < 16 + 29 * g + (9 + 10 * s) + 10) → I' a i = I a i) : zLm I' a g s w :=
  ⟨(e _ (Or.inl rfl)).trans h.1, h.2.1, fun p hp => (e _ (Or.inr (by have := h.2.1; omega))).trans (h.2.2 p hp)⟩
theorem zMd_X {I : zI} {a i : Nat} {S : zS} {v : Int32} (h : zMd I a S) (hi : i < 16) : zMd (zput I a i v) a (tX S i v) := by
  refine ⟨fun k hk => ?_, fun g hg => ⟨fun j hj => ?_, fun s hs => ((h.2.1 g hg).2 s hs).out (fun q hq => zput_nj (by omega))⟩, fun c hc => ⟨fun j hj => ?_, fun k hk => ?_⟩⟩
  · rw [tX_X]
    split
    · rename_i e; subst e; exact zput_eq
    · rename_i e; rw [zput_nj e]; exact h.1 k hk
  · rw [zput_nj (by omega)]; exact (h.2.1 g hg).1 j hj
  · rw [zput_nj (by omega)]; exact (h.2.2 c hc).1 j hj
  · rw [zput_nj (by omega)]; exact (h.2.2 c hc).2 k hk
theorem zMd_G {I : zI} {a g j : Nat} {S : zS} {v : Int32} (h : zMd I a S) (hg : g < 6) (hj : j < 7) : zMd (zput I a (16 + 29 * g + j) v) a (tG S g j v) := by
  refine ⟨fun k hk => ?_, fun g9 hg9 => ⟨fun j9 hj9 => ?_, fun s hs => ((h.2.1 g9 hg9).2 s hs).out (fun q hq => zput_nj (by rcases Nat.lt_trichotomy g g9 with z9 | z9 | z9 <;> omega))⟩, fun c hc => ⟨fun j9 hj9 => ?_, fun k hk => ?_⟩⟩
  · rw [zput_nj (by omega)]; exact h.1 k hk
  · rw [tG_G]
    split
    · rename_i e; obtain ⟨rfl, rfl⟩ := e; exact zput_eq
    · rename_i e; rw [zput_nj (by rcases Nat.lt_trichotomy g g9 with z9 | z9 | z9 <;> omega)]; exact (h.2.1 g9 hg9).1 j9 hj9
  · rw [zput_nj (by omega)]; exact (h.2.2 c hc).1 j9 hj9
  · rw [zput_nj (by omega)]; exact (h.2.2 c hc).2 k hk
theorem tC_C {S : zS} {c j : Nat} {v : Int32} {x y : Nat} : sC (tC S c j v) x y = if x = c ∧ y = j then v else sC S x y := rfl
theorem tM_M {S : zS} {c j : Nat} {v : Int32} {x y : Nat} : sM (tM S c j v) x y = if x = c ∧ y = j then v else sM S x y := rfl
theorem zMd_C {I : zI} {a c j : Nat} {S : zS} {v : Int32} (h : zMd I a S) (hc : c < 12) (hj : j < 4) : zMd (zput I a (190 + 10 * c + j) v) a (tC S c j v) := by
  refine ⟨fun k hk => ?_, fun g9 hg9 => ⟨fun j9 hj9 => ?_, fun s hs => ((h.2.1 g9 hg9).2 s hs).out (fun q hq => zput_nj (by omega))⟩, fun c9 hc9 => ⟨fun j9 hj9 => ?_, fun k hk => ?_⟩⟩
  · rw [zput_nj (by omega)]; exact h.1 k hk
  · rw [zput_nj (by omega)]; exact (h.2.1 g9 hg9).1 j9 hj9
  · rw [tC_C]
    split
    · rename_i e; obtain ⟨rfl, rfl⟩ := e; exact zput_eq
    · rename_i e; rw [zput_nj (by omega)]; exact (h.2.2 c9 hc9).1 j9 hj9
  · rw [zput_nj (by omega)]; exact (h.2.2 c9 hc9).2 k hk
theorem zMd_M {I : zI} {a c k : Nat} {S : zS} {v : Int32} (h : zMd I a S) (hc : c < 12) (hj : k < 6) : zMd (zput I a (190 + 10 * c + (4 + k)) v) a (tM S c k v) := by
  refine ⟨fun k hk => ?_, fun g9 hg9 => ⟨fun j9 hj9 => ?_, fun s hs => ((h.2.1 g9 hg9).2 s hs).out (fun q hq => zput_nj (by omega))⟩, fun c9 hc9 => ⟨fun j9 hj9 => ?_, fun k9 hk => ?_⟩⟩
  · rw [zput_nj (by omega)]; exact h.1 k hk
  · rw [zput_nj (by omega)]; exact (h.2.1 g9 hg9).1 j9 hj9
  · rw [zput_nj (by omega)]; exact (h.2.2 c9 hc9).1 j9 hj9
  · rw [tM_M]
    split
    · rename_i e; obtain ⟨rfl, rfl⟩ := e; exact zput_eq
    · rename_i e; rw [zput_nj (by omega)]; exact (h.2.2 c9 hc9).2 k9 hk
/-- one line has changed, at the places of its own -/
theorem zMd_L {I I' : zI} {a g s : Nat} {S : zS} {w : List Nat} (h : zMd I a S) (hg : g < 6) (hs : s < 2) (e : ∀ i : Nat, ¬ (i = 16 + 29 * g + (7 + s) ∨ (16 + 29 * g + (9 + 10 * s) ≤ i ∧ i < 16 + 29 * g + (9 + 10 * s) + 10)) → I' a i = I a i) (hn : zLm I' a g s w) : zMd I' a (tL S g s w) := by
  refine ⟨fun k hk => (e _ (by omega)).trans (h.1 k hk), fun g9 hg9 => ⟨fun j9 hj9 => (e _ (by rcases Nat.lt_trichotomy g g9 with z9 | z9 | z9 <;> omega)).trans ((h.2.1 g9 hg9).1 j9 hj9), fun s9 hs9 => ?_⟩, fun c9 hc9 => ⟨fun j9 hj9 => (e _ (by omega)).trans ((h.2.2 c9 hc9).1 j9 hj9), fun k9 hk => (e _ (by omega)).trans ((h.2.2 c9 hc9).2 k9 hk)⟩⟩
  rw [tL_L]
  split
  · rename_i q; obtain ⟨rfl, rfl⟩ := q; exact hn
  · rename_i q; exact ((h.2.1 g9 hg9).2 s9 hs9).out (fun i hi => e i (by rcases Nat.lt_trichotomy g g9 with z9 | z9 | z9 <;> rcases Nat.lt_trichotomy s s9 with z8 | z8 | z8 <;> omega))
theorem zMd_take {I : zI} {a g s k : Nat} {S : zS} (h : zMd I a S) (hg : g < 6) (hs : s < 2) (hk : k < (sL S g s).length) :
    zMd (zput (zput (zshl I a (16 + 29 * g + (9 + 10 * s + k)) (16 + 29 * g + (9 + 10 * s + ((sL S g s).length - 1)))) a (16 + 29 * g + (9 + 10 * s + ((sL S g s).length - 1))) 0) a (16 + 29 * g + (7 + s)) (nI ((sL S g s).length - 1))) a (tL S g s ((sL S g s).eraseIdx k)) := by
  have hl := h.len hg hs
  have h9 := (h.2.1 g hg).2 s hs
  refine zMd_L h hg hs (fun i hi => ?_) ⟨?_, ?_, fun p hp => ?_⟩
  · rw [zput_nj (by omega), zput_nj (by omega), zshl_out (by omega)]
  · rw [zput_eq, zlen_erase hk]
  · rw [zlen_erase hk]; omega
  · rw [zlen_erase hk] at hp
    rw [zput_nj (by omega), zput_nj (by omega), zgetD_erase]
    by_cases q : p < k
    · rw [if_pos q, zshl_out (by omega)]; exact h9.2.2 p (by omega)
    · rw [if_neg q, zshl_in (by omega) (by omega)]; exact h9.2.2 (p + 1) (by omega)
theorem zMd_add {I : zI} {a g s x : Nat} {S : zS} (h : zMd I a S) (hg : g < 6) (hs : s < 2) (hk : (sL S g s).length < 10) :
    zMd (zput (zput I a (16 + 29 * g + (9 + 10 * s + (sL S g s).length)) (nI x)) a (16 + 29 * g + (7 + s)) (nI ((sL S g s).length + 1))) a (tL S g s (sL S g s ++ [x])) := by
  have h9 := (h.2.1 g hg).2 s hs
  refine zMd_L h hg hs (fun i hi => ?_) ⟨?_, ?_, fun p hp => ?_⟩
  · rw [zput_nj (by omega), zput_nj (by omega)]
  · rw [zput_eq, List.length_append]; rfl
  · rw [List.length_append]; exact hk
  · rw [List.length_append] at hp
    have hp2 : p < (sL S g s).length + 1 := hp
    rw [zput_nj (by omega)]
    by_cases q : p = (sL S g s).length
    · subst q; rw [zput_eq]; simp [List.getD_eq_getElem?_getD]
    · have h2 : p < (sL S g s).length := by omega
      rw [zput_nj (by omega), h9.2.2 p h2]
      simp [List.getD_eq_getElem?_getD, List.getElem?_append_left h2]
/-- x is laid ahead of a line -/
theorem zMd_ahead {I : zI} {a g s x : Nat} {S : zS} (h : zMd I a S) (hg : g < 6) (hs : s < 2) (hk : (sL S g s).length < 10) :
    zMd (zput (zput (zshr I a (16 + 29 * g + (9 + 10 * s + 0)) (16 + 29 * g + (9 + 10 * s + (sL S g s).length))) a (16 + 29 * g + (9 + 10 * s + 0)) (nI x)) a (16 + 29 * g + (7 + s)) (nI ((sL S g s).length + 1))) a (tL S g s (x :: sL S g s)) := by
  have h9 := (h.2.1 g hg).2 s hs
  refine zMd_L h hg hs (fun i hi => ?_) ⟨?_, ?_, fun p hp => ?_⟩
  · rw [zput_nj (by omega), zput_nj (by omega), zshr_out (by omega)]
  · rw [zput_eq, List.length_cons]
  · rw [List.length_cons]; exact hk
  · rw [List.length_cons] at hp
    rw [zput_nj (by omega)]
    rcases p with _ | p
    · exact zput_eq
    · rw [zput_nj (by omega), zshr_in (by omega) (by omega), List.getD_cons_succ]
      exact h9.2.2 p (by omega)
theorem zgat (g w : Nat) : (16 : Int32) + (29 : Int32) * nI g + nI w = nI (16 + 29 * g + w) := by
  rw [show (29 : Int32) = nI 29 from rfl, nI_mul, show (16 : Int32) = nI 16 from rfl, nI_add, nI_add]
theorem zcat (g w : Nat) : (190 : Int32) + (10 : Int32) * nI g + nI w = nI (190 + 10 * g + w) := by
  rw [show (10 : Int32) = nI 10 from rfl, nI_mul, show (190 : Int32) = nI 190 from rfl, nI_add, nI_add]
abbrev zrm_X8_gateAt : Room := { frames := 0, cells := 0, slots := 0, locals := 0 }
set_option maxRecDepth 20000 in
theorem zp_X8_gateAt {l : Launch} {D : va_G} {b0 : Nat} {tA : Nat → ClassId} {sa sv : Nat → Nat} {K : Nat → Option Nat} {I : zI} {Qp : zI → Option AV → Prop} {Xp : String → zI → Prop} {x1 : Int32} {x2 : Int32} 
    (h_1 : Qp I (some (vi ((((16 : Int32) + ((29 : Int32) * x1)) + x2))))) :
    zC l D b0 tA sa sv K yX8_gateAt (.code yX8_gateAt cX8_gateAt 2 (some .int)) zrm_X8_gateAt [vi (x1), vi (x2)] I Qp Xp := by
  refine zC_of (by decide +kernel) (Nat.le_of_ble_eq_true rfl) ?_
  intro p e s m args below meth c X hnt
  have X : zX p l e zrm_X8_gateAt s m args below meth c RX8 cX8_gateAt 2 (some .int) D b0 tA sa sv := X
  refine zr_lv (lv2 := [some (vi (x1)), some (vi (x2))]) rfl ?_
  refine zr_bipush (v := (16 : Int32)) X dX8_gateAt_0 (by decide) ?_
  refine zr_bipush (v := (29 : Int32)) X dX8_gateAt_2 (by decide) ?_
  refine zr_iload0 X dX8_gateAt_4 ?_
  refine zr_imul X dX8_gateAt_5 ?_
  refine zr_iadd X dX8_gateAt_6 ?_
  refine zr_iload1 X dX8_gateAt_7 ?_
  refine zr_iadd X dX8_gateAt_8 ?_
  refine zr_iret X (by decide) (by decide) dX8_gateAt_9 ?_
  exact h_1 
abbrev zrm_X8_cardAt : Room := { frames := 0, cells := 0, slots := 0, locals := 0 }
set_option maxRecDepth 20000 in
theorem zp_X8_cardAt {l : Launch} {D : va_G} {b0 : Nat} {tA : Nat → ClassId} {sa sv : Nat → Nat} {K : Nat → Option Nat} {I : zI} {Qp : zI → Option AV → Prop} {Xp : String → zI → Prop} {x1 : Int32} {x2 : Int32} 
    (h_1 : Qp I (some (vi ((((190 : Int32) + ((10 : Int32) * x1)) + x2))))) :
    zC l D b0 tA sa sv K yX8_cardAt (.code yX8_cardAt cX8_cardAt 2 (some .int)) zrm_X8_cardAt [vi (x1), vi (x2)] I Qp Xp := by
  refine zC_of (by decide +kernel) (Nat.le_of_ble_eq_true rfl) ?_
  intro p e s m args below meth c X hnt
  have X : zX p l e zrm_X8_cardAt s m args below meth c RX8 cX8_cardAt 2 (some .int) D b0 tA sa sv := X
  refine zr_lv (lv2 := [some (vi (x1)), some (vi (x2))]) rfl ?_
  refine zr_sipush (v := (190 : Int32)) X dX8_cardAt_0 (by decide) ?_
  refine zr_bipush (v := (10 : Int32)) X dX8_cardAt_3 (by decide) ?_
  refine zr_iload0 X dX8_cardAt_5 ?_
  refine zr_imul X dX8_cardAt_6 ?_
  refine zr_iadd X dX8_cardAt_7 ?_
  refine zr_iload1 X dX8_cardAt_8 ?_
  refine zr_iadd X dX8_cardAt_9 ?_
  refine zr_iret X (by decide) (by decide) dX8_cardAt_10 ?_
  exact h_1 
abbrev zrm_X8_in : Room := { frames := 0, cells := 0, slots := 0, locals := 0 }
set_option maxRecDepth 20000 in
theorem zp_X8_in {l : Launch} {D : va_G} {b0 : Nat} {tA : Nat → ClassId} {sa sv : Nat → Nat} {K : Nat → Option Nat} {I : zI} {Qp : zI → Option AV → Prop} {Xp : String → zI → Prop} {x1 : Int32} {x2 : Int32} {x3 : Int32} 
    (h_1 : x1 < x2 → Qp I (some (vi ((0 : Int32)))))
    (h_2 : ¬ (x1 < x2) → x3 < x1 → Qp I (some (vi ((0 : Int32)))))
    (h_3 : ¬ (x1 < x2) → ¬ (x3 < x1) → Qp I (some (vi ((1 : Int32))))) :
    zC l D b0 tA sa sv K yX8_in (.code yX8_in cX8_in 3 (some .boolean)) zrm_X8_in [vi (x1), vi (x2), vi (x3)] I Qp Xp := by
  refine zC_of (by decide +kernel) (Nat.le_of_ble_eq_true rfl) ?_
  intro p e s m args below meth c X hnt
  have X : zX p l e zrm_X8_in s m args below meth c RX8 cX8_in 3 (some .boolean) D b0 tA sa sv := X
  refine zr_lv (lv2 := [some (vi (x1)), some (vi (x2)), some (vi (x3))]) rfl ?_
  refine zr_iload0 X dX8_in_0 ?_
  refine zr_iload1 X dX8_in_1 ?_
  refine zr_icmp_lt (tgt := 14) X dX8_in_2 (by decide) (fun h1 => ?_) (fun h1 => ?_)
  · skip
    refine zr_iconst (v := (0 : Int32)) X dX8_in_14 (by decide) ?_
    refine zr_zret X (by first | decide | assumption | (simp; done)) (by decide) (by decide) dX8_in_15 ?_
    exact h_1 h1
  · skip
    refine zr_iload0 X dX8_in_5 ?_
    refine zr_iload2 X dX8_in_6 ?_
    refine zr_icmp_gt (tgt := 14) X dX8_in_7 (by decide) (fun h2 => ?_) (fun h2 => ?_)
    · skip
      refine zr_iconst (v := (0 : Int32)) X dX8_in_14 (by decide) ?_
      refine zr_zret X (by first | decide | assumption | (simp; done)) (by decide) (by decide) dX8_in_15 ?_
      exact h_2 h1 h2
    · skip
      refine zr_iconst (v := (1 : Int32)) X dX8_in_10 (by decide) ?_
      refine zr_goto (tgt := 15) X dX8_in_11 (by decide) ?_
      refine zr_zret X (by first | decide | assumption | (simp; done)) (by decide) (by decide) dX8_in_15 ?_
      exact h_3 h1 h2
abbrev zrm_X8_min : Room := { frames := 0, cells := 0, slots := 0, locals := 0 }
set_option maxRecDepth 20000 in
theorem zp_X8_min {l : Launch} {D : va_G} {b0 : Nat} {tA : Nat → ClassId} {sa sv : Nat → Nat} {K : Nat → Option Nat} {I : zI} {Qp : zI → Option AV → Prop} {Xp : String → zI → Prop} {x1 : Int32} {x2 : Int32} 
    (h_1 : x2 ≤ x1 → Qp I (some (vi (x2))))
    (h_2 : ¬ (x2 ≤ x1) → Qp I (some (vi (x1)))) :
    zC l D b0 tA sa sv K yX8_min (.code yX8_min cX8_min 2 (some .int)) zrm_X8_min [vi (x1), vi (x2)] I Qp Xp := by
  refine zC_of (by decide +kernel) (Nat.le_of_ble_eq_true rfl) ?_
  intro p e s m args below meth c X hnt
  have X : zX p l e zrm_X8_min s m args below meth c RX8 cX8_min 2 (some .int) D b0 tA sa sv := X
  refine zr_lv (lv2 := [some (vi (x1)), some (vi (x2))]) rfl ?_
  refine zr_iload0 X dX8_min_0 ?_
  refine zr_iload1 X dX8_min_1 ?_
  refine zr_icmp_ge (tgt := 9) X dX8_min_2 (by decide) (fun h1 => ?_) (fun h1 => ?_)
  · skip
    refine zr_iload1 X dX8_min_9 ?_
    refine zr_iret X (by decide) (by decide) dX8_min_10 ?_
    exact h_1 h1
  · skip
    refine zr_iload0 X dX8_min_5 ?_
    refine zr_goto (tgt := 10) X dX8_min_6 (by decide) ?_
    refine zr_iret X (by decide) (by decide) dX8_min_10 ?_
    exact h_2 h1
abbrev zrm_X8_max : Room := { frames := 0, cells := 0, slots := 0, locals := 0 }
set_option maxRecDepth 20000 in
theorem zp_X8_max {l : Launch} {D : va_G} {b0 : Nat} {tA : Nat → ClassId} {sa sv : Nat → Nat} {K : Nat → Option Nat} {I : zI} {Qp : zI → Option AV → Prop} {Xp : String → zI → Prop} {x1 : Int32} {x2 : Int32} 
    (h_1 : x1 ≤ x2 → Qp I (some (vi (x2))))
    (h_2 : ¬ (x1 ≤ x2) → Qp I (some (vi (x1)))) :
    zC l D b0 tA sa sv K yX8_max (.code yX8_max cX8_max 2 (some .int)) zrm_X8_max [vi (x1), vi (x2)] I Qp Xp := by
  refine zC_of (by decide +kernel) (Nat.le_of_ble_eq_true rfl) ?_
  intro p e s m args below meth c X hnt
  have X : zX p l e zrm_X8_max s m args below meth c RX8 cX8_max 2 (some .int) D b0 tA sa sv := X
  refine zr_lv (lv2 := [some (vi (x1)), some (vi (x2))]) rfl ?_
  refine zr_iload0 X dX8_max_0 ?_
  refine zr_iload1 X dX8_max_1 ?_
  refine zr_icmp_le (tgt := 9) X dX8_max_2 (by decide) (fun h1 => ?_) (fun h1 => ?_)
  · skip
    refine zr_iload1 X dX8_max_9 ?_
    refine zr_iret X (by decide) (by decide) dX8_max_10 ?_
    exact h_1 h1
  · skip
    refine zr_iload0 X dX8_max_5 ?_
    refine zr_goto (tgt := 10) X dX8_max_6 (by decide) ?_
    refine zr_iret X (by decide) (by decide) dX8_max_10 ?_
    exact h_2 h1
abbrev zrm_X8_size : Room := { frames := 0, cells := 0, slots := 0, locals := 0 }
set_option maxRecDepth 20000 in
theorem zp_X8_size {l : Launch} {D : va_G} {b0 : Nat} {tA : Nat → ClassId} {sa sv : Nat → Nat} {K : Nat → Option Nat} {I : zI} {Qp : zI → Option AV → Prop} {Xp : String → zI → Prop} {x1 : Int32} 
    (h_1 : (0 : Int32) ≤ x1 → Qp I (some (vi (x1))))
    (h_2 : ¬ ((0 : Int32) ≤ x1) → Qp I (some (vi ((-x1))))) :
    zC l D b0 tA sa sv K yX8_size (.code yX8_size cX8_size 1 (some .int)) zrm_X8_size [vi (x1)] I Qp Xp := by
  refine zC_of (by decide +kernel) (Nat.le_of_ble_eq_true rfl) ?_
  intro p e s m args below meth c X hnt
  have X : zX p l e zrm_X8_size s m args below meth c RX8 cX8_size 1 (some .int) D b0 tA sa sv := X
  refine zr_lv (lv2 := [some (vi (x1))]) rfl ?_
  refine zr_iload0 X dX8_size_0 ?_
  refine zr_if_ge (tgt := 9) X dX8_size_1 (by decide) (fun h1 => ?_) (fun h1 => ?_)
  · skip
    refine zr_iload0 X dX8_size_9 ?_
    refine zr_iret X (by decide) (by decide) dX8_size_10 ?_
    exact h_1 h1
  · skip
    refine zr_iload0 X dX8_size_4 ?_
    refine zr_ineg X dX8_size_5 ?_
    refine zr_goto (tgt := 10) X dX8_size_6 (by decide) ?_
    refine zr_iret X (by decide) (by decide) dX8_size_10 ?_
    exact h_2 h1
abbrev zrm_X8_serves : Room := { frames := 0, cells := 0, slots := 0, locals := 0 }
set_option maxRecDepth 20000 in
theorem zp_X8_serves {l : Launch} {D : va_G} {b0 : Nat} {tA : Nat → ClassId} {sa sv : Nat → Nat} {K : Nat → Option Nat} {I : zI} {Qp : zI → Option AV → Prop} {Xp : String → zI → Prop} {x1 : Int32} {x2 : Int32} 
    (h_1 : x1 = (2 : Int32) → Qp I (some (vi ((1 : Int32)))))
    (h_2 : ¬ (x1 = (2 : Int32)) → ¬ x1 = x2 → Qp I (some (vi ((0 : Int32)))))
    (h_3 : ¬ (x1 = (2 : Int32)) → x1 = x2 → Qp I (some (vi ((1 : Int32))))) :
    zC l D b0 tA sa sv K yX8_serves (.code yX8_serves cX8_serves 2 (some .boolean)) zrm_X8_serves [vi (x1), vi (x2)] I Qp Xp := by
  refine zC_of (by decide +kernel) (Nat.le_of_ble_eq_true rfl) ?_
  intro p e s m args below meth c X hnt
  have X : zX p l e zrm_X8_serves s m args below meth c RX8 cX8_serves 2 (some .boolean) D b0 tA sa sv := X
  refine zr_lv (lv2 := [some (vi (x1)), some (vi (x2))]) rfl ?_
  refine zr_iload0 X dX8_serves_0 ?_
  refine zr_iconst (v := (2 : Int32)) X dX8_serves_1 (by decide) ?_
  refine zr_icmp_eq (tgt := 10) X dX8_serves_2 (by decide) (fun h1 => ?_) (fun h1 => ?_)
  · skip
    refine zr_iconst (v := (1 : Int32)) X dX8_serves_10 (by decide) ?_
    refine zr_goto (tgt := 15) X dX8_serves_11 (by decide) ?_
    refine zr_zret X (by first | decide | assumption | (simp; done)) (by decide) (by decide) dX8_serves_15 ?_
    exact h_1 h1
  · skip
    refine zr_iload0 X dX8_serves_5 ?_
    refine zr_iload1 X dX8_serves_6 ?_
    refine zr_icmp_ne (tgt := 14) X dX8_serves_7 (by decide) (fun h2 => ?_) (fun h2 => ?_)
    · skip
      refine zr_iconst (v := (0 : Int32)) X dX8_serves_14 (by decide) ?_
      refine zr_zret X (by first | decide | assumption | (simp; done)) (by decide) (by decide) dX8_serves_15 ?_
      exact h_2 h1 h2
    · skip
      refine zr_iconst (v := (1 : Int32)) X dX8_serves_10 (by decide) ?_
      refine zr_goto (tgt := 15) X dX8_serves_11 (by decide) ?_
      refine zr_zret X (by first | decide | assumption | (simp; done)) (by decide) (by decide) dX8_serves_15 ?_
      exact h_3 h1 h2
abbrev zrm_X8_isGood : Room := { frames := 0, cells := 0, slots := 0, locals := 0 }
set_option maxRecDepth 20000 in
theorem zp_X8_isGood {l : Launch} {D : va_G} {b0 : Nat} {tA : Nat → ClassId} {sa sv : Nat → Nat} {K : Nat → Option Nat} {I : zI} {Qp : zI → Option AV → Prop} {Xp : String → zI → Prop} {a : Nat} 
    (h_1 : ¬ (I (a) 5) = (0 : Int32) → Qp I (some (vi ((0 : Int32)))))
    (h_2 : (I (a) 5) = (0 : Int32) → Qp I (some (vi ((1 : Int32))))) :
    zC l D b0 tA sa sv K yX8_isGood (.code yX8_isGood cX8_isGood 1 (some .boolean)) zrm_X8_isGood [vr (a) 8] I Qp Xp := by
  refine zC_of (by decide +kernel) (Nat.le_of_ble_eq_true rfl) ?_
  intro p e s m args below meth c X hnt
  have X : zX p l e zrm_X8_isGood s m args below meth c RX8 cX8_isGood 1 (some .boolean) D b0 tA sa sv := X
  refine zr_lv (lv2 := [some (vr (a) 8)]) rfl ?_
  refine zr_aload0 X dX8_isGood_0 ?_
  refine zr_getI X zf_X8_111 rfl dX8_isGood_1 ?_
  refine zr_if_ne (tgt := 11) X dX8_isGood_4 (by decide) (fun h1 => ?_) (fun h1 => ?_)
  · skip
    refine zr_iconst (v := (0 : Int32)) X dX8_isGood_11 (by decide) ?_
    refine zr_zret X (by first | decide | assumption | (simp; done)) (by decide) (by decide) dX8_isGood_12 ?_
    exact h_1 h1
  · skip
    refine zr_iconst (v := (1 : Int32)) X dX8_isGood_7 (by decide) ?_
    refine zr_goto (tgt := 12) X dX8_isGood_8 (by decide) ?_
    refine zr_zret X (by first | decide | assumption | (simp; done)) (by decide) (by decide) dX8_isGood_12 ?_
    exact h_2 h1
abbrev zrm_X8_report : Room := { frames := 0, cells := 0, slots := 0, locals := 0 }
set_option maxRecDepth 20000 in
theorem zp_X8_report {l : Launch} {D : va_G} {b0 : Nat} {tA : Nat → ClassId} {sa sv : Nat → Nat} {K : Nat → Option Nat} {I : zI} {Qp : zI → Option AV → Prop} {Xp : String → zI → Prop} {a : Nat} {x1 : Int32} {x2 : Int32} 
    (h_1 : (I (a) 5) = (0 : Int32) → Qp (zput (zput I (a) 5 (x1)) (a) 6 (x2)) none)
    (h_2 : ¬ ((I (a) 5) = (0 : Int32)) → Qp I none) :
    zC l D b0 tA sa sv K yX8_report (.code yX8_report cX8_report 3 none) zrm_X8_report [vr (a) 8, vi (x1), vi (x2)] I Qp Xp := by
  refine zC_of (by decide +kernel) (Nat.le_of_ble_eq_true rfl) ?_
  intro p e s m args below meth c X hnt
  have X : zX p l e zrm_X8_report s m args below meth c RX8 cX8_report 3 none D b0 tA sa sv := X
  refine zr_lv (lv2 := [some (vr (a) 8), some (vi (x1)), some (vi (x2))]) rfl ?_
  refine zr_aload0 X dX8_report_0 ?_
  refine zr_getI X zf_X8_111 rfl dX8_report_1 ?_
  refine zr_if_eq (tgt := 8) X dX8_report_4 (by decide) (fun h1 => ?_) (fun h1 => ?_)
  · skip
    refine zr_aload0 X dX8_report_8 ?_
    refine zr_iload1 X dX8_report_9 ?_
    refine zr_putI X zf_X8_111 rfl (Or.inl rfl) dX8_report_10 ?_
    refine zr_aload0 X dX8_report_13 ?_
    refine zr_iload2 X dX8_report_14 ?_
    refine zr_putI X zf_X8_114 rfl (Or.inl rfl) dX8_report_15 ?_
    refine zr_vret X (by decide) (by decide) dX8_report_18 ?_
    exact h_1 h1
  · skip
    refine zr_vret X (by decide) (by decide) dX8_report_7 ?_
    exact h_2 h1
abbrev zrm_X8_thrown : Room := { frames := 0, cells := 0, slots := 0, locals := 0 }
set_option maxRecDepth 20000 in
theorem zp_X8_thrown {l : Launch} {D : va_G} {b0 : Nat} {tA : Nat → ClassId} {sa sv : Nat → Nat} {K : Nat → Option Nat} {I : zI} {Qp : zI → Option AV → Prop} {Xp : String → zI → Prop} {a : Nat} 
    (h_1 : Qp I (some (vi ((I (a) 0))))) :
    zC l D b0 tA sa sv K yX8_thrown (.code yX8_thrown cX8_thrown 1 (some .int)) zrm_X8_thrown [vr (a) 8] I Qp Xp := by
  refine zC_of (by decide +kernel) (Nat.le_of_ble_eq_true rfl) ?_
  intro p e s m args below meth c X hnt
  have X : zX p l e zrm_X8_thrown s m args below meth c RX8 cX8_thrown 1 (some .int) D b0 tA sa sv := X
  refine zr_lv (lv2 := [some (vr (a) 8)]) rfl ?_
  refine zr_aload0 X dX8_thrown_0 ?_
  refine zr_getI X zf_X8_31 rfl dX8_thrown_1 ?_
  refine zr_iret X (by decide) (by decide) dX8_thrown_4 ?_
  exact h_1 
abbrev zrm_X8_fails : Room := { frames := 0, cells := 0, slots := 0, locals := 0 }
set_option maxRecDepth 20000 in
theorem zp_X8_fails {l : Launch} {D : va_G} {b0 : Nat} {tA : Nat → ClassId} {sa sv : Nat → Nat} {K : Nat → Option Nat} {I : zI} {Qp : zI → Option AV → Prop} {Xp : String → zI → Prop} {a : Nat} {x1 : Int32} {x2 : Int32} 
    (h_1 : x1 = (0 : Int32) → (I (a) 0) = (0 : Int32) → Qp I (some (vi ((0 : Int32)))))
    (h_2 : x1 = (0 : Int32) → ¬ ((I (a) 0) = (0 : Int32)) → Qp I (some (vi ((1 : Int32)))))
    (h_3 : ¬ (x1 = (0 : Int32)) → ¬ (I (a) 0) = (0 : Int32) → Qp I (some (vi ((1 : Int32)))))
    (h_4 : ¬ (x1 = (0 : Int32)) → (I (a) 0) = (0 : Int32) → x2 = (0 : Int32) → Qp (zput I (a) 0 (x2)) (some (vi ((0 : Int32)))))
    (h_5 : ¬ (x1 = (0 : Int32)) → (I (a) 0) = (0 : Int32) → ¬ (x2 = (0 : Int32)) → Qp (zput I (a) 0 (x2)) (some (vi ((1 : Int32))))) :
    zC l D b0 tA sa sv K yX8_fails (.code yX8_fails cX8_fails 3 (some .boolean)) zrm_X8_fails [vr (a) 8, vi (x1), vi (x2)] I Qp Xp := by
  refine zC_of (by decide +kernel) (Nat.le_of_ble_eq_true rfl) ?_
  intro p e s m args below meth c X hnt
  have X : zX p l e zrm_X8_fails s m args below meth c RX8 cX8_fails 3 (some .boolean) D b0 tA sa sv := X
  refine zr_lv (lv2 := [some (vr (a) 8), some (vi (x1)), some (vi (x2))]) rfl ?_
  refine zr_iload1 X dX8_fails_0 ?_
  refine zr_if_eq (tgt := 16) X dX8_fails_1 (by decide) (fun h1 => ?_) (fun h1 => ?_)
  · skip
    refine zr_aload0 X dX8_fails_16 ?_
    refine zr_getI X zf_X8_31 rfl dX8_fails_17 ?_
    refine zr_if_eq (tgt := 27) X dX8_fails_20 (by decide) (fun h2 => ?_) (fun h2 => ?_)
    · skip
      refine zr_iconst (v := (0 : Int32)) X dX8_fails_27 (by decide) ?_
      refine zr_zret X (by first | decide | assumption | (simp; done)) (by decide) (by decide) dX8_fails_28 ?_
      exact h_1 h1 h2
    · skip
      refine zr_iconst (v := (1 : Int32)) X dX8_fails_23 (by decide) ?_
      refine zr_goto (tgt := 28) X dX8_fails_24 (by decide) ?_
      refine zr_zret X (by first | decide | assumption | (simp; done)) (by decide) (by decide) dX8_fails_28 ?_
      exact h_2 h1 h2
  · skip
    refine zr_aload0 X dX8_fails_4 ?_
    refine zr_getI X zf_X8_31 rfl dX8_fails_5 ?_
    refine zr_if_ne (tgt := 16) X dX8_fails_8 (by decide) (fun h3 => ?_) (fun h3 => ?_)
    · skip
      refine zr_aload0 X dX8_fails_16 ?_
      refine zr_getI X zf_X8_31 rfl dX8_fails_17 ?_
      refine zr_if_eq (tgt := 27) X dX8_fails_20 (by decide) (fun h => absurd h (by assumption)) (fun _ => ?_)
      refine zr_iconst (v := (1 : Int32)) X dX8_fails_23 (by decide) ?_
      refine zr_goto (tgt := 28) X dX8_fails_24 (by decide) ?_
      refine zr_zret X (by first | decide | assumption | (simp; done)) (by decide) (by decide) dX8_fails_28 ?_
      exact h_3 h1 h3
    · skip
      refine zr_aload0 X dX8_fails_11 ?_
      refine zr_iload2 X dX8_fails_12 ?_
      refine zr_putI X zf_X8_31 rfl (Or.inl rfl) dX8_fails_13 ?_
      refine zr_aload0 X dX8_fails_16 ?_
      refine zr_getI X zf_X8_31 rfl dX8_fails_17 ?_
      refine zr_eq (x2 := x2) (zput_eq) ?_
      refine zr_if_eq (tgt := 27) X dX8_fails_20 (by decide) (fun h4 => ?_) (fun h4 => ?_)
      · skip
        refine zr_iconst (v := (0 : Int32)) X dX8_fails_27 (by decide) ?_
        refine zr_zret X (by first | decide | assumption | (simp; done)) (by decide) (by decide) dX8_fails_28 ?_
        exact h_4 h1 h3 h4
      · skip
        refine zr_iconst (v := (1 : Int32)) X dX8_fails_23 (by decide) ?_
        refine zr_goto (tgt := 28) X dX8_fails_24 (by decide) ?_
        refine zr_zret X (by first | decide | assumption | (simp; done)) (by decide) (by decide) dX8_fails_28 ?_
        exact h_5 h1 h3 h4
theorem zn_X8_gateAt {l : Launch} {D : va_G} {b0 : Nat} {tA : Nat → ClassId} {sa sv : Nat → Nat} {K : Nat → Option Nat} {I : zI} {Qp : zI → Option AV → Prop} {Xp : String → zI → Prop} {g w : Nat} (k1 : Qp I (some (vi (nI (16 + 29 * g + w))))) :
    zC l D b0 tA sa sv K yX8_gateAt (.code yX8_gateAt cX8_gateAt 2 (some .int)) zrm_X8_gateAt [vi ((nI g)), vi ((nI w))] I Qp Xp := zp_X8_gateAt (by rw [zgat]; exact k1)
theorem zn_X8_cardAt {l : Launch} {D : va_G} {b0 : Nat} {tA : Nat → ClassId} {sa sv : Nat → Nat} {K : Nat → Option Nat} {I : zI} {Qp : zI → Option AV → Prop} {Xp : String → zI → Prop} {g w : Nat} (k1 : Qp I (some (vi (nI (190 + 10 * g + w))))) :
    zC l D b0 tA sa sv K yX8_cardAt (.code yX8_cardAt cX8_cardAt 2 (some .int)) zrm_X8_cardAt [vi ((nI g)), vi ((nI w))] I Qp Xp := zp_X8_cardAt (by rw [zcat]; exact k1)
abbrev zrm_X8_placeAt : Room := { frames := 1, cells := 0, slots := 0, locals := 21 }
set_option maxRecDepth 20000 in
theorem zn_X8_placeAt {l : Launch} {D : va_G} {b0 : Nat} {tA : Nat → ClassId} {sa sv : Nat → Nat} {K : Nat → Option Nat} {I : zI} {Qp : zI → Option AV → Prop} {Xp : String → zI → Prop} {g s9 k9 : Nat}
    (k1 : Qp I (some (vi (nI (16 + 29 * g + (9 + 10 * s9 + k9)))))) :
    zC l D b0 tA sa sv K yX8_placeAt (.code yX8_placeAt cX8_placeAt 3 (some .int)) zrm_X8_placeAt [vi ((nI g)), vi ((nI s9)), vi ((nI k9))] I Qp Xp := by
  refine zC_of (by decide +kernel) (Nat.le_of_ble_eq_true rfl) ?_
  intro p e s m args below meth c X hnt
  have X : zX p l e zrm_X8_placeAt s m args below meth c RX8 cX8_placeAt 3 (some .int) D b0 tA sa sv := X
  refine zr_lv (lv2 := [some (vi ((nI g))), some (vi ((nI s9))), some (vi ((nI k9)))]) rfl ?_
  refine zr_iload0 X dX8_placeAt_0 ?_
  refine zr_bipush (v := (9 : Int32)) X dX8_placeAt_1 (by decide) ?_
  refine zr_bipush (v := (10 : Int32)) X dX8_placeAt_3 (by decide) ?_
  refine zr_iload1 X dX8_placeAt_5 ?_
  refine zr_imul X dX8_placeAt_6 ?_
  refine zr_eq (x2 := (nI (10 * s9))) (nI_mul (10) (s9)) ?_
  refine zr_iadd X dX8_placeAt_7 ?_
  refine zr_eq (x2 := (nI (9 + (10 * s9)))) (nI_add (9) ((10 * s9))) ?_
  refine zr_iload2 X dX8_placeAt_8 ?_
  refine zr_iadd X dX8_placeAt_9 ?_
  refine zr_eq (x2 := (nI ((9 + (10 * s9)) + k9))) (nI_add ((9 + (10 * s9))) (k9)) ?_
  refine zr_callS2 (rm9 := zrm_X8_gateAt) X hnt zm_X8_34 (by decide) (by decide) (by decide) (Nat.le_of_ble_eq_true rfl) dX8_placeAt_10 ?_
  refine zn_X8_gateAt (g := g) (w := (9 + (10 * s9)) + k9) ?_
  refine zr_iret X (by decide) (by decide) dX8_placeAt_13 ?_
  exact k1
abbrev zrm_X8_many : Room := { frames := 1, cells := 0, slots := 0, locals := 21 }
set_option maxRecDepth 20000 in
theorem zn_X8_many {l : Launch} {D : va_G} {b0 : Nat} {tA : Nat → ClassId} {sa sv : Nat → Nat} {K : Nat → Option Nat} {I : zI} {Qp : zI → Option AV → Prop} {Xp : String → zI → Prop} {a g s9 : Nat} {S : zS}
    (hM : zMd I a S) (hg : g < 6) (hs : s9 < 2) (k1 : Qp I (some (vi (nI ((sL S g s9).length))))) :
    zC l D b0 tA sa sv K yX8_many (.code yX8_many cX8_many 3 (some .int)) zrm_X8_many [vr (a) 15, vi ((nI g)), vi ((nI s9))] I Qp Xp := by
  refine zC_of (by decide +kernel) (Nat.le_of_ble_eq_true rfl) ?_
  intro p e s m args below meth c X hnt
  have X : zX p l e zrm_X8_many s m args below meth c RX8 cX8_many 3 (some .int) D b0 tA sa sv := X
  refine zr_lv (lv2 := [some (vr (a) 15), some (vi ((nI g))), some (vi ((nI s9)))]) rfl ?_
  refine zr_aload0 X dX8_many_0 ?_
  refine zr_iload1 X dX8_many_1 ?_
  refine zr_bipush (v := (7 : Int32)) X dX8_many_2 (by decide) ?_
  refine zr_iload2 X dX8_many_4 ?_
  refine zr_iadd X dX8_many_5 ?_
  refine zr_eq (x2 := (nI (7 + s9))) (nI_add (7) (s9)) ?_
  refine zr_callS2 (rm9 := zrm_X8_gateAt) X hnt zm_X8_34 (by decide) (by decide) (by decide) (Nat.le_of_ble_eq_true rfl) dX8_many_6 ?_
  refine zn_X8_gateAt (g := g) (w := 7 + s9) ?_
  refine zr_ialdN (n := 16 + 29 * g + (7 + s9)) X rfl (show _ < 310 from (by first | assumption | omega | decide)) dX8_many_9 ?_
  refine zr_eq (x2 := (nI ((sL S g s9).length))) (((hM.2.1 g (by omega)).2 s9 (by omega)).1) ?_
  refine zr_iret X (by decide) (by decide) dX8_many_10 ?_
  exact k1
theorem zq_X8_in {l : Launch} {D : va_G} {b0 : Nat} {tA : Nat → ClassId} {sa sv : Nat → Nat} {K : Nat → Option Nat} {I : zI} {Qp : zI → Option AV → Prop} {Xp : String → zI → Prop} {v lo hi : Int32} (k1 : lo ≤ v ∧ v ≤ hi → Qp I (some (vi 1))) (k2 : ¬ (lo ≤ v ∧ v ≤ hi) → Qp I (some (vi 0))) :
    zC l D b0 tA sa sv K yX8_in (.code yX8_in cX8_in 3 (some .boolean)) zrm_X8_in [vi (v), vi (lo), vi (hi)] I Qp Xp := by
  refine zp_X8_in ?_ ?_ ?_ <;> intros <;> first | exact k2 (fun z => absurd z.2 (Int32.not_le.mpr (by assumption))) | exact k1 ⟨Int32.not_lt.mp (by assumption), Int32.not_lt.mp (by assumption)⟩ | exact k2 (fun z => absurd z.1 (Int32.not_le.mpr (by assumption)))
theorem zq_X8_serves {l : Launch} {D : va_G} {b0 : Nat} {tA : Nat → ClassId} {sa sv : Nat → Nat} {K : Nat → Option Nat} {I : zI} {Qp : zI → Option AV → Prop} {Xp : String → zI → Prop} {v : Int32} {s9 : Nat} (k1 : qSv v s9 → Qp I (some (vi 1))) (k2 : ¬ qSv v s9 → Qp I (some (vi 0))) :
    zC l D b0 tA sa sv K yX8_serves (.code yX8_serves cX8_serves 2 (some .boolean)) zrm_X8_serves [vi (v), vi ((nI s9))] I Qp Xp := by
  refine zp_X8_serves ?_ ?_ ?_ <;> intros <;> first | exact k1 (Or.inl (by assumption)) | exact k1 (Or.inr (by assumption)) | exact k2 (fun z => z.elim (by assumption) (by assumption))
abbrev zrm_X8_keys : Room := { frames := 0, cells := 0, slots := 0, locals := 0 }
set_option maxRecDepth 20000 in
theorem zn_X8_keys {l : Launch} {D : va_G} {b0 : Nat} {tA : Nat → ClassId} {sa sv : Nat → Nat} {K : Nat → Option Nat} {I : zI} {Qp : zI → Option AV → Prop} {Xp : String → zI → Prop} {a : Nat} {S : zS}
    (hM : zMd I a S) (k1 : Qp I (some (vi (zkeys S)))) :
    zC l D b0 tA sa sv K yX8_keys (.code yX8_keys cX8_keys 1 (some .int)) zrm_X8_keys [vr (a) 15] I Qp Xp := by
  refine zC_of (by decide +kernel) (Nat.le_of_ble_eq_true rfl) ?_
  intro p e s m args below meth c X hnt
  have X : zX p l e zrm_X8_keys s m args below meth c RX8 cX8_keys 1 (some .int) D b0 tA sa sv := X
  refine zr_lv (lv2 := [some (vr (a) 15)]) rfl ?_
  refine zr_aload0 X dX8_keys_0 ?_
  refine zr_bipush (v := (6 : Int32)) X dX8_keys_1 (by decide) ?_
  refine zr_ialdN (n := 6) X rfl (show _ < 310 from (by first | assumption | omega | decide)) dX8_keys_3 ?_
  refine zr_eq (x2 := (sX S 6)) (hM.1 6 (by decide)) ?_
  refine zr_aload0 X dX8_keys_4 ?_
  refine zr_bipush (v := (7 : Int32)) X dX8_keys_5 (by decide) ?_
  refine zr_ialdN (n := 7) X rfl (show _ < 310 from (by first | assumption | omega | decide)) dX8_keys_7 ?_
  refine zr_eq (x2 := (sX S 7)) (hM.1 7 (by decide)) ?_
  refine zr_iadd X dX8_keys_8 ?_
  refine zr_aload0 X dX8_keys_9 ?_
  refine zr_bipush (v := (8 : Int32)) X dX8_keys_10 (by decide) ?_
  refine zr_ialdN (n := 8) X rfl (show _ < 310 from (by first | assumption | omega | decide)) dX8_keys_12 ?_
  refine zr_eq (x2 := (sX S 8)) (hM.1 8 (by decide)) ?_
  refine zr_iadd X dX8_keys_13 ?_
  refine zr_iret X (by decide) (by decide) dX8_keys_14 ?_
  exact k1
theorem zPan_le {S : zS} : zkeys S ≤ 1 ↔ ¬ zPan S := by
  unfold zPan zkeys
  exact Int32.not_lt.symm
abbrev zrm_X8_isPanic : Room := { frames := 1, cells := 0, slots := 0, locals := 20 }
set_option maxRecDepth 20000 in
theorem zn_X8_isPanic {l : Launch} {D : va_G} {b0 : Nat} {tA : Nat → ClassId} {sa sv : Nat → Nat} {K : Nat → Option Nat} {I : zI} {Qp : zI → Option AV → Prop} {Xp : String → zI → Prop} {a : Nat} {S : zS}
    (hM : zMd I a S) (k1 : zPan S → Qp I (some (vi 1))) (k2 : ¬ zPan S → Qp I (some (vi 0))) :
    zC l D b0 tA sa sv K yX8_isPanic (.code yX8_isPanic cX8_isPanic 1 (some .boolean)) zrm_X8_isPanic [vr (a) 15] I Qp Xp := by
  refine zC_of (by decide +kernel) (Nat.le_of_ble_eq_true rfl) ?_
  intro p e s m args below meth c X hnt
  have X : zX p l e zrm_X8_isPanic s m args below meth c RX8 cX8_isPanic 1 (some .boolean) D b0 tA sa sv := X
  refine zr_lv (lv2 := [some (vr (a) 15)]) rfl ?_
  refine zr_aload0 X dX8_isPanic_0 ?_
  refine zr_callS1 (rm9 := zrm_X8_keys) X hnt zm_X8_64 (by decide) (by decide) (by decide) (Nat.le_of_ble_eq_true rfl) dX8_isPanic_1 ?_
  refine zn_X8_keys hM ?_
  refine zr_iconst (v := (1 : Int32)) X dX8_isPanic_4 (by decide) ?_
  refine zr_icmp_le (tgt := 12) X dX8_isPanic_5 (by decide) (fun h1 => ?_) (fun h1 => ?_)
  · skip
    refine zr_iconst (v := (0 : Int32)) X dX8_isPanic_12 (by decide) ?_
    refine zr_zret X (by first | decide | assumption | (simp; done)) (by decide) (by decide) dX8_isPanic_13 ?_
    exact k2 (zPan_le.mp (by assumption))
  · skip
    refine zr_iconst (v := (1 : Int32)) X dX8_isPanic_8 (by decide) ?_
    refine zr_goto (tgt := 13) X dX8_isPanic_9 (by decide) ?_
    refine zr_zret X (by first | decide | assumption | (simp; done)) (by decide) (by decide) dX8_isPanic_13 ?_
    exact k1 (Classical.byContradiction (fun z => absurd (zPan_le.mpr z) (by assumption)))
abbrev zrm_X8_copy : Room := { frames := 0, cells := 0, slots := 0, locals := 0 }
theorem zcp_md {I : zI} {a b : Nat} {S : zS} (h : zMd I a S) : zMd (zcp I a b 310) b S := by
  refine ⟨fun k hk => ?_, fun g9 hg9 => ⟨fun j9 hj9 => ?_, fun s9 hs9 => ⟨?_, ?_, fun p hp => ?_⟩⟩, fun c9 hc9 => ⟨fun j9 hj9 => ?_, fun k9 hk => ?_⟩⟩
  · rw [zcp_in (by omega)]; exact h.1 k hk
  · rw [zcp_in (by omega)]; exact (h.2.1 g9 hg9).1 j9 hj9
  · rw [zcp_in (by omega)]; exact ((h.2.1 g9 hg9).2 s9 hs9).1
  · exact ((h.2.1 g9 hg9).2 s9 hs9).2.1
  · have := ((h.2.1 g9 hg9).2 s9 hs9).2.1
    rw [zcp_in (by omega)]; exact ((h.2.1 g9 hg9).2 s9 hs9).2.2 p hp
  · rw [zcp_in (by omega)]; exact (h.2.2 c9 hc9).1 j9 hj9
  · rw [zcp_in (by omega)]; exact (h.2.2 c9 hc9).2 k9 hk
set_option maxRecDepth 20000 in
theorem zl_X8_copy {l : Launch} {D : va_G} {b0 : Nat} {tA : Nat → ClassId} {sa sv : Nat → Nat} {K : Nat → Option Nat} {I : zI} {Qp : zI → Option AV → Prop} {Xp : String → zI → Prop} {p : Program} {e : Env} {s : State} {m : MethodId} {args : Array Value} {below : List Frame} {meth : Method} {c : Code} {a b : Nat} {S : zS}
    (X : zX p l e zrm_X8_copy s m args below meth c RX8 cX8_copy 3 none D b0 tA sa sv) (hnt : ∀ x ∈ c.exceptionTable.toList, False) (hd : a ≠ b) (hM : zMd I a S) (k1 : ∀ J : zI, zag I J b 1 → zMd J b S → Qp J none) :
    ∀ (n : Nat) (j : Nat), j ≤ 310 → 310 - j < n → zG p l e zrm_X8_copy s m args below meth c 3 D b0 tA sa 0 0 (zQ below D b0 tA sa K args s zrm_X8_copy Qp Xp) K 2 [some (vr (a) 15), some (vr (b) 15), some (vi ((nI j)))] [] (zcp I a b j) := by
  intro n
  induction n with
  | zero => intro j i1 i3; exact absurd i3 (Nat.not_lt_zero _)
  | succ n ih =>
    intro j i1 i3
    refine zr_iload2 X dX8_copy_2 ?_
    refine zr_sipush (v := (310 : Int32)) X dX8_copy_3 (by decide) ?_
    refine zr_nicmp_ge X (j) (310) (tgt := 21) (by omega) (by omega) dX8_copy_6 (by decide) (fun h1 => ?_) (fun h1 => ?_)
    · skip
      refine zr_vret X (by decide) (by decide) dX8_copy_21 ?_
      have hj : j = 310 := by omega
      subst hj
      exact k1 _ (fun q hq => zcp_ne (by omega)) (zcp_md hM)
    · skip
      refine zr_aload1 X dX8_copy_9 ?_
      refine zr_iload2 X dX8_copy_10 ?_
      refine zr_aload0 X dX8_copy_11 ?_
      refine zr_iload2 X dX8_copy_12 ?_
      refine zr_ialdN X rfl (show _ < 310 from (by first | assumption | omega)) dX8_copy_13 ?_
      refine zr_iastN X rfl (show _ < 310 from (by first | assumption | omega)) dX8_copy_14 ?_
      refine zr_iinc2 (v := (nI (j + 1))) X (show nI (j) + Int32.ofInt 1 = nI (j + 1) from nI_1 (j)) (by decide) rfl dX8_copy_15 ?_
      refine zr_goto (tgt := 2) X dX8_copy_18 (by decide) ?_
      refine zr_I (zcp_s hd) ?_
      exact ih (j + 1) (by omega) (by omega)
set_option maxRecDepth 20000 in
theorem zp_X8_copy {l : Launch} {D : va_G} {b0 : Nat} {tA : Nat → ClassId} {sa sv : Nat → Nat} {K : Nat → Option Nat} {I : zI} {Qp : zI → Option AV → Prop} {Xp : String → zI → Prop} {a b : Nat} {S : zS}
    (hd : a ≠ b) (hM : zMd I a S) (k1 : ∀ J : zI, zag I J b 1 → zMd J b S → Qp J none) :
    zC l D b0 tA sa sv K yX8_copy (.code yX8_copy cX8_copy 3 none) zrm_X8_copy [vr (a) 15, vr (b) 15] I Qp Xp := by
  refine zC_of (by decide +kernel) (Nat.le_of_ble_eq_true rfl) ?_
  intro p e s m args below meth c X hnt
  have X : zX p l e zrm_X8_copy s m args below meth c RX8 cX8_copy 3 none D b0 tA sa sv := X
  refine zr_lv (lv2 := [some (vr (a) 15), some (vr (b) 15), none]) rfl ?_
  refine zr_iconst (v := (0 : Int32)) X dX8_copy_0 (by decide) ?_
  refine zr_istore2 X (by decide) rfl dX8_copy_1 ?_
  refine zr_I (zcp_0 (f := a) (t := b)).symm ?_
  exact zl_X8_copy X hnt hd hM k1 311 0 (by omega) (by omega)
abbrev zrm_X8_takes : Room := { frames := 2, cells := 0, slots := 0, locals := 43 }
set_option maxRecDepth 20000 in
theorem zl_X8_takes {l : Launch} {D : va_G} {b0 : Nat} {tA : Nat → ClassId} {sa sv : Nat → Nat} {K : Nat → Option Nat} {I : zI} {Qp : zI → Option AV → Prop} {Xp : String → zI → Prop} {p : Program} {e : Env} {s : State} {m : MethodId} {args : Array Value} {below : List Frame} {meth : Method} {c : Code} {a g s9 k : Nat} {S : zS}
    (X : zX p l e zrm_X8_takes s m args below meth c RX8 cX8_takes 7 (some .int) D b0 tA sa sv) (hnt : ∀ x ∈ c.exceptionTable.toList, False) (hM : zMd I a S) (hg : g < 6) (hs : s9 < 2) (hk : k < (sL S g s9).length) (k1 : ∀ J : zI, zag I J a 1 → zMd J a (tL S g s9 ((sL S g s9).eraseIdx k)) → Qp J (some (vi (nI ((sL S g s9).getD k 0))))) :
    ∀ (n : Nat) (j : Nat), k ≤ j → j < (sL S g s9).length → (sL S g s9).length - j < n → zG p l e zrm_X8_takes s m args below meth c 7 D b0 tA sa 0 0 (zQ below D b0 tA sa K args s zrm_X8_takes Qp Xp) K 23 [some (vr (a) 15), some (vi ((nI g))), some (vi ((nI s9))), some (vi ((nI k))), some (vi ((nI ((sL S g s9).getD k 0)))), some (vi ((nI ((sL S g s9).length - 1)))), some (vi ((nI j)))] [] (zshl I a (16 + 29 * g + (9 + 10 * s9 + k)) (16 + 29 * g + (9 + 10 * s9 + j))) := by
  intro n
  induction n with
  | zero => intro j i1 i2 i3; exact absurd i3 (Nat.not_lt_zero _)
  | succ n ih =>
    intro j i1 i2 i3
    have hl9 := hM.len hg hs
    refine zr_iload6 X dX8_takes_23 ?_
    refine zr_iload5 X dX8_takes_25 ?_
    refine zr_nicmp_ge X (j) (((sL S g s9).length - 1)) (tgt := 56) (by omega) (by omega) dX8_takes_27 (by decide) (fun h1 => ?_) (fun h1 => ?_)
    · skip
      refine zr_aload0 X dX8_takes_56 ?_
      refine zr_iload1 X dX8_takes_57 ?_
      refine zr_iload2 X dX8_takes_58 ?_
      refine zr_iload5 X dX8_takes_59 ?_
      refine zr_callS3 (rm9 := zrm_X8_placeAt) X hnt zm_X8_42 (by decide) (by decide) (by decide) (Nat.le_of_ble_eq_true rfl) dX8_takes_61 ?_
      refine zn_X8_placeAt (g := g) (s9 := s9) (k9 := (sL S g s9).length - 1) ?_
      refine zr_iconst (v := (0 : Int32)) X dX8_takes_64 (by decide) ?_
      refine zr_iastN X rfl (show _ < 310 from (by first | assumption | omega)) dX8_takes_65 ?_
      refine zr_aload0 X dX8_takes_66 ?_
      refine zr_iload1 X dX8_takes_67 ?_
      refine zr_bipush (v := (7 : Int32)) X dX8_takes_68 (by decide) ?_
      refine zr_iload2 X dX8_takes_70 ?_
      refine zr_iadd X dX8_takes_71 ?_
      refine zr_eq (x2 := (nI (7 + s9))) (nI_add (7) (s9)) ?_
      refine zr_callS2 (rm9 := zrm_X8_gateAt) X hnt zm_X8_34 (by decide) (by decide) (by decide) (Nat.le_of_ble_eq_true rfl) dX8_takes_72 ?_
      refine zn_X8_gateAt (g := g) (w := 7 + s9) ?_
      refine zr_dup2 X dX8_takes_75 ?_
      refine zr_ialdN X rfl (show _ < 310 from (by first | assumption | omega)) dX8_takes_76 ?_
      refine zr_eq (x2 := (nI ((sL S g s9).length))) (by first | (rw [zput_nj (by omega), zshl_out (by omega)]; exact ((hM.2.1 g hg).2 s9 hs).1)) ?_
      refine zr_iconst (v := (1 : Int32)) X dX8_takes_77 (by decide) ?_
      refine zr_isub X dX8_takes_78 ?_
      refine zr_eq (x2 := (nI (((sL S g s9).length) - 1))) (pk_sub (a := ((sL S g s9).length)) (b := 1) (by omega)) ?_
      refine zr_iastN X rfl (show _ < 310 from (by first | assumption | omega)) dX8_takes_79 ?_
      refine zr_iload4 X dX8_takes_80 ?_
      refine zr_iret X (by decide) (by decide) dX8_takes_82 ?_
      have hj : j = (sL S g s9).length - 1 := by omega
      subst hj
      exact k1 _ (fun q hq => (zput_nq (by omega)).trans ((zput_nq (by omega)).trans (zshl_ne (by omega)))) (zMd_take hM hg hs hk)
    · skip
      refine zr_aload0 X dX8_takes_30 ?_
      refine zr_iload1 X dX8_takes_31 ?_
      refine zr_iload2 X dX8_takes_32 ?_
      refine zr_iload6 X dX8_takes_33 ?_
      refine zr_callS3 (rm9 := zrm_X8_placeAt) X hnt zm_X8_42 (by decide) (by decide) (by decide) (Nat.le_of_ble_eq_true rfl) dX8_takes_35 ?_
      refine zn_X8_placeAt (g := g) (s9 := s9) (k9 := j) ?_
      refine zr_aload0 X dX8_takes_38 ?_
      refine zr_iload1 X dX8_takes_39 ?_
      refine zr_iload2 X dX8_takes_40 ?_
      refine zr_iload6 X dX8_takes_41 ?_
      refine zr_iconst (v := (1 : Int32)) X dX8_takes_43 (by decide) ?_
      refine zr_iadd X dX8_takes_44 ?_
      refine zr_eq (x2 := (nI (j + 1))) (nI_add (j) (1)) ?_
      refine zr_callS3 (rm9 := zrm_X8_placeAt) X hnt zm_X8_42 (by decide) (by decide) (by decide) (Nat.le_of_ble_eq_true rfl) dX8_takes_45 ?_
      refine zn_X8_placeAt (g := g) (s9 := s9) (k9 := j + 1) ?_
      refine zr_ialdN X rfl (show _ < 310 from (by first | assumption | omega)) dX8_takes_48 ?_
      refine zr_iastN X rfl (show _ < 310 from (by first | assumption | omega)) dX8_takes_49 ?_
      refine zr_iinc6 (v := (nI (j + 1))) X (show nI (j) + Int32.ofInt 1 = nI (j + 1) from nI_1 (j)) (by decide) rfl dX8_takes_50 ?_
      refine zr_goto (tgt := 23) X dX8_takes_53 (by decide) ?_
      refine zr_I (zshl_s (k := 16 + 29 * g + (9 + 10 * s9 + j)) (by omega)) ?_
      exact ih (j + 1) (by omega) (by omega) (by omega)
set_option maxRecDepth 20000 in
theorem zp_X8_takes {l : Launch} {D : va_G} {b0 : Nat} {tA : Nat → ClassId} {sa sv : Nat → Nat} {K : Nat → Option Nat} {I : zI} {Qp : zI → Option AV → Prop} {Xp : String → zI → Prop} {a g s9 k : Nat} {S : zS}
    (hM : zMd I a S) (hg : g < 6) (hs : s9 < 2) (hk : k < (sL S g s9).length) (k1 : ∀ J : zI, zag I J a 1 → zMd J a (tL S g s9 ((sL S g s9).eraseIdx k)) → Qp J (some (vi (nI ((sL S g s9).getD k 0))))) :
    zC l D b0 tA sa sv K yX8_takes (.code yX8_takes cX8_takes 7 (some .int)) zrm_X8_takes [vr (a) 15, vi ((nI g)), vi ((nI s9)), vi ((nI k))] I Qp Xp := by
  have hl9 := hM.len hg hs
  refine zC_of (by decide +kernel) (Nat.le_of_ble_eq_true rfl) ?_
  intro p e s m args below meth c X hnt
  have X : zX p l e zrm_X8_takes s m args below meth c RX8 cX8_takes 7 (some .int) D b0 tA sa sv := X
  refine zr_lv (lv2 := [some (vr (a) 15), some (vi ((nI g))), some (vi ((nI s9))), some (vi ((nI k))), none, none, none]) rfl ?_
  refine zr_aload0 X dX8_takes_0 ?_
  refine zr_iload1 X dX8_takes_1 ?_
  refine zr_iload2 X dX8_takes_2 ?_
  refine zr_iload3 X dX8_takes_3 ?_
  refine zr_callS3 (rm9 := zrm_X8_placeAt) X hnt zm_X8_42 (by decide) (by decide) (by decide) (Nat.le_of_ble_eq_true rfl) dX8_takes_4 ?_
  refine zn_X8_placeAt (g := g) (s9 := s9) (k9 := k) ?_
  refine zr_ialdN (n := 16 + 29 * g + (9 + 10 * s9 + k)) X rfl (show _ < 310 from (by first | assumption | omega | decide)) dX8_takes_7 ?_
  refine zr_eq (x2 := (nI ((sL S g s9).getD k 0))) (((hM.2.1 g (by omega)).2 s9 (by omega)).2.2 k (by first | assumption | omega)) ?_
  refine zr_istore4 X (by decide) rfl dX8_takes_8 ?_
  refine zr_aload0 X dX8_takes_10 ?_
  refine zr_iload1 X dX8_takes_11 ?_
  refine zr_iload2 X dX8_takes_12 ?_
  refine zr_callS3 (rm9 := zrm_X8_many) X hnt zm_X8_38 (by decide) (by decide) (by decide) (Nat.le_of_ble_eq_true rfl) dX8_takes_13 ?_
  refine zn_X8_many (g := g) (s9 := s9) hM (by omega) (by omega) ?_
  refine zr_iconst (v := (1 : Int32)) X dX8_takes_16 (by decide) ?_
  refine zr_isub X dX8_takes_17 ?_
  refine zr_eq (x2 := (nI (((sL S g s9).length) - 1))) (pk_sub (a := ((sL S g s9).length)) (b := 1) (by omega)) ?_
  refine zr_istore5 X (by decide) rfl dX8_takes_18 ?_
  refine zr_iload3 X dX8_takes_20 ?_
  refine zr_istore6 X (by decide) rfl dX8_takes_21 ?_
  refine zr_I (zshl_0 (d := a) (lo := 16 + 29 * g + (9 + 10 * s9 + k))).symm ?_
  exact zl_X8_takes X hnt hM hg hs hk k1 ((sL S g s9).length - k + 1) k (by omega) hk (by omega)
