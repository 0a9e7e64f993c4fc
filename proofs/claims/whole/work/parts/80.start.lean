/-! ===== how all lies behind the constructors ===== -/
def kS (d : Nat) : Nat := if d < 501 then kC d else if d < 515 then kM (d - 501) else 17
def iS (d j : Nat) : Int32 := if d < 501 then iC d j else if d < 515 then iM (d - 501) j else 0
def zKS (x : Nat) : Nat → Option Nat := fun a => if x ≤ a ∧ a < x + 516 then some (kS (a - x)) else none
def zIS (x : Nat) : zI := fun a j => iS (a - x) j
theorem zIS_at {x d j : Nat} : zIS x (x + d) j = iS d j := by unfold zIS; rw [Nat.add_sub_cancel_left]
theorem zKS_at {x d : Nat} (h : d < 516) : zKS x (x + d) = some (kS d) := by unfold zKS; rw [if_pos ⟨by omega, by omega⟩, Nat.add_sub_cancel_left]
theorem zfk_16 {k j : Nat} {q : Nat × Nat} (h : zfk k j = some q) : j < 16 := by
  unfold zfk at h
  split at h <;> first | (simp at h; done) | omega
theorem zfb_16 {k j : Nat} (h : zfb k j = true) : j < 16 := by
  unfold zfb at h
  split at h <;> first | (simp at h; done) | omega
def kS_t (d : Nat) : Bool := decide (kS d < 18) && (List.range 16).all (fun j => (match zfk (kS d) j with | none => true | some q => decide (d + q.1 < 516) && decide (kS (d + q.1) = q.2)) && (!(zfb (kS d) j) || decide (iS d j = 0))) && (!(zaq (kS d)) || (List.range (zan (kS d))).all (fun j => decide (d + (zak (kS d)).1 + (zak (kS d)).2.1 * j < 516) && decide (kS (d + (zak (kS d)).1 + (zak (kS d)).2.1 * j) = (zak (kS d)).2.2)))
theorem kS_ok : (List.range 516).all kS_t = true := by decide +kernel
theorem zinv_S {x : Nat} : zinv (zKS x) (zIS x) := by
  intro a k hk
  unfold zKS at hk
  split at hk
  · rename_i ha
    obtain ⟨d, rfl⟩ : ∃ d, a = x + d := ⟨a - x, by omega⟩
    rw [Nat.add_sub_cancel_left] at hk
    have hd : d < 516 := by omega
    obtain rfl : kS d = k := Option.some.inj hk
    have h := List.all_eq_true.mp kS_ok d (List.mem_range.mpr hd)
    unfold kS_t at h
    simp only [Bool.and_eq_true, decide_eq_true_eq] at h
    obtain ⟨⟨h1, h2⟩, h3⟩ := h
    refine ⟨h1, fun j q hq => ?_, fun hz j hj => ?_, fun j hb => ?_⟩
    · have h4 := List.all_eq_true.mp h2 j (List.mem_range.mpr (zfk_16 hq))
      rw [hq] at h4
      simp only [Bool.and_eq_true, decide_eq_true_eq] at h4
      rw [Nat.add_assoc, zKS_at h4.1.1, h4.1.2]
    · rw [hz] at h3
      simp only [Bool.not_true, Bool.false_or] at h3
      have h4 := List.all_eq_true.mp h3 j (List.mem_range.mpr hj)
      simp only [Bool.and_eq_true, decide_eq_true_eq] at h4
      rw [Nat.add_assoc x, Nat.add_assoc x, zKS_at h4.1, h4.2]
    · have h4 := List.all_eq_true.mp h2 j (List.mem_range.mpr (zfb_16 hb))
      rw [hb] at h4
      simp only [Bool.and_eq_true, Bool.not_true, Bool.false_or, decide_eq_true_eq] at h4
      rw [zIS_at]
      exact Or.inl h4.2
  · cases hk
theorem zRw_S {x r0 : Nat} (h : ∀ d j, d < 45 → iS (r0 + d) j = iR1 d j) : zRw (zIS x) (x + r0) zBlank := by
  have e : ∀ d j, d < 45 → zIS x (x + r0 + d) j = iR1 d j := fun d j hd => by rw [Nat.add_assoc, zIS_at, h d j hd]
  have e0 : ∀ j, zIS x (x + r0) j = iR1 0 j := fun j => e 0 j (by decide)
  refine ⟨fun i h1 h2 => ?_, ?_, fun g hg => ?_, fun c hc => ?_⟩
  · rw [e0]
    rcases (by omega : i = 0 ∨ i = 1 ∨ i = 2 ∨ i = 3 ∨ i = 4 ∨ i = 5 ∨ i = 6 ∨ i = 7 ∨ i = 8 ∨ i = 9 ∨ i = 10 ∨ i = 11 ∨ i = 12 ∨ i = 13 ∨ i = 14 ∨ i = 15) with rfl | rfl | rfl | rfl | rfl | rfl | rfl | rfl | rfl | rfl | rfl | rfl | rfl | rfl | rfl | rfl <;> rfl
  · rw [e0]; rfl
  · have eg : ∀ q j, q < 5 → zIS x (x + r0 + 1 + 2 + 5 * g + q) j = iG1 q j := fun q j hq => by
      have := e (3 + 5 * g + q) j (by omega)
      rw [show x + r0 + (3 + 5 * g + q) = x + r0 + 1 + 2 + 5 * g + q by omega] at this
      rw [this]
      unfold iR1
      rw [if_neg (by omega), if_pos (by omega), show (3 + 5 * g + q - 3) % 5 = q by omega]
    have e00 := fun j => eg 0 j (by decide)
    refine ⟨⟨?_, ?_, ?_, ?_, ?_, ?_, ?_⟩, ⟨?_, Nat.zero_le _, fun p hp => absurd hp (Nat.not_lt_zero _)⟩, ⟨?_, Nat.zero_le _, fun p hp => absurd hp (Nat.not_lt_zero _)⟩⟩
    · exact (e00 2).trans rfl
    · exact (e00 3).trans rfl
    · exact (e00 4).trans rfl
    · exact (e00 5).trans rfl
    · exact (e00 6).trans rfl
    · exact (e00 7).trans rfl
    · exact (e00 8).trans rfl
    · exact (eg 1 1 (by decide)).trans rfl
    · exact (eg 3 1 (by decide)).trans rfl
  · have ec : ∀ j, zIS x (x + r0 + 2 + 31 + 1 * c) j = 0 := fun j => by
      have := e (33 + c) j (by omega)
      rw [show x + r0 + (33 + c) = x + r0 + 2 + 31 + 1 * c by omega] at this
      rw [this]
      unfold iR1
      rw [if_neg (by omega), if_neg (by omega)]
    exact ⟨(ec 0).trans rfl, (ec 1).trans rfl, (ec 2).trans rfl, (ec 3).trans rfl, (ec 4).trans rfl⟩
theorem zCl_S {x : Nat} : zCl (zIS x) (zIS x) x (fun _ => 0) 0 (-1) zBlank [] := by
  refine ⟨⟨?_, by decide, fun _ => Nat.zero_lt_succ _, fun k hk => absurd hk (Nat.not_lt_zero _)⟩, ?_, ?_, zWf_blank, ⟨?_, zFar.rf⟩, ⟨0, by decide, ?_, ?_, Nat.zero_le _, fun i u hu => by cases hu⟩, fun u hu => by cases hu⟩
  · exact (zIS_at (d := 1)).trans rfl
  · exact (zIS_at (x := x) (d := 0)).trans rfl
  · exact zRw_S (fun d j hd => by unfold iS iC; rw [if_pos (by omega), if_neg (by omega), if_neg (by omega), if_pos (by omega), Nat.add_sub_cancel_left])
  · exact zRw_S (fun d j hd => by unfold iS iC; rw [if_pos (by omega), if_neg (by omega), if_neg (by omega), if_neg (by omega), if_pos (by omega), Nat.add_sub_cancel_left])
  · exact (zIS_at (d := 139)).trans rfl
  · exact (zIS_at (d := 139)).trans rfl
theorem zRf_S {x : Nat} : zRf (zIS x) (zIS x) (x + 501) (fun _ => 0) 0 (-1) zBlank [] := by
  have em : ∀ j, zIS x (x + 501 + 2) j = if j = 1 then 2 else if j = 0 then 3 else 0 := fun j => (zIS_at (x := x) (d := 503)).trans rfl
  refine ⟨⟨?_, by decide, fun _ => Nat.zero_lt_succ _, fun k hk => absurd hk (Nat.not_lt_zero _)⟩, ?_, ⟨fun i hi => ?_, fun g hg => ⟨fun j hj => ?_, fun s hs => ?_⟩, fun c hc => ⟨fun j hj => ?_, fun k hk => ?_⟩⟩, zWf_blank, zFrr.rf, ⟨?_, Nat.zero_le _, fun i u hu => by cases hu⟩, fun u hu => by cases hu⟩
  · exact (zIS_at (x := x) (d := 501)).trans rfl
  · exact (zIS_at (x := x) (d := 501)).trans rfl
  · rw [em]
    show (if i = 1 then (2 : Int32) else if i = 0 then 3 else 0) = if i = 0 then 3 else if i = 1 then 2 else 0
    by_cases h0 : i = 0
    · subst h0; rfl
    · by_cases h1 : i = 1
      · subst h1; rfl
      · rw [if_neg h1, if_neg h0, if_neg h0, if_neg h1]
  · rw [em, if_neg (by omega), if_neg (by omega)]; rfl
  · refine ⟨?_, Nat.zero_le _, fun p hp => absurd hp (Nat.not_lt_zero _)⟩
    rw [em, if_neg (by omega), if_neg (by omega)]; rfl
  · rw [em, if_neg (by omega), if_neg (by omega)]; rfl
  · rw [em, if_neg (by omega), if_neg (by omega)]; rfl
  · exact (zIS_at (x := x) (d := 501)).trans rfl
/-- the typed view of what the constructors left -/
theorem zhp_S {D : va_G} {b0 x : Nat} {tA : Nat → ClassId} {E : zE} {H : Heap} (h : zhp D b0 E H) (h1 : zBk tA kC iC E x 501) (h2 : zBk tA kM iM E (x + 501) 14) (h3 : E (x + 515) = some (.inl (tA 17, 1, .inr (.inl (fun _ => 0))))) : zhp D b0 (zEof tA (zKS x) (zIS x)) H := by
  intro a e he
  refine h a e ?_
  unfold zEof zKS at he
  split at he
  · rename_i ha
    obtain ⟨d, rfl⟩ : ∃ d, a = x + d := ⟨a - x, by omega⟩
    rw [Nat.add_sub_cancel_left] at he
    have ei : zIS x (x + d) = iS d := funext fun j => zIS_at
    rw [ei] at he
    have he : some (zcell tA (kS d) (x + d) (iS d)) = some e := he
    rw [← he]
    by_cases c1 : d < 501
    · have k9 : kS d = kC d := if_pos c1
      have i9 : iS d = iC d := funext fun j => if_pos c1
      rw [k9, i9]; exact h1 d c1
    · by_cases c2 : d < 515
      · have k9 : kS d = kM (d - 501) := (if_neg c1).trans (if_pos c2)
        have i9 : iS d = iM (d - 501) := funext fun j => (if_neg c1).trans (if_pos c2)
        have := h2 (d - 501) (by omega)
        rw [show x + 501 + (d - 501) = x + d by omega] at this
        rw [k9, i9]; exact this
      · obtain rfl : d = 515 := by omega
        exact h3
  · cases he
