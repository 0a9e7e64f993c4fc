/-! ===== the class as it is made; what the law's guards answer ===== -/
theorem zRw_S {I : zI} {x r0 : Nat} (hr : r0 + 45 ≤ 501) (h : ∀ d j, d < 45 → iC (r0 + d) j = iR1 d j) : zRw (zzC I x) (x + r0) zBlank := by
  have e : ∀ d j, d < 45 → zzC I x (x + r0 + d) j = iR1 d j := fun d j hd => by rw [Nat.add_assoc, zzC_at (by omega), h d j hd]
  have e0 : ∀ j, zzC I x (x + r0) j = iR1 0 j := fun j => e 0 j (by decide)
  refine ⟨fun i h1 h2 => ?_, ?_, fun g hg => ?_, fun c hc => ?_⟩
  · rw [e0]
    rcases (by omega : i = 0 ∨ i = 1 ∨ i = 2 ∨ i = 3 ∨ i = 4 ∨ i = 5 ∨ i = 6 ∨ i = 7 ∨ i = 8 ∨ i = 9 ∨ i = 10 ∨ i = 11 ∨ i = 12 ∨ i = 13 ∨ i = 14 ∨ i = 15) with rfl | rfl | rfl | rfl | rfl | rfl | rfl | rfl | rfl | rfl | rfl | rfl | rfl | rfl | rfl | rfl <;> rfl
  · rw [e0]; rfl
  · have eg : ∀ q j, q < 5 → zzC I x (x + r0 + 1 + 2 + 5 * g + q) j = iG1 q j := fun q j hq => by
      have := e (3 + 5 * g + q) j (by omega)
      rw [show x + r0 + (3 + 5 * g + q) = x + r0 + 1 + 2 + 5 * g + q by omega] at this
      rw [this]
      unfold iR1
      rw [if_neg (by omega), if_pos (by omega), show (3 + 5 * g + q - 3) % 5 = q by omega]
    have e00 := fun j => eg 0 j (by decide)
    refine ⟨⟨?_, ?_, ?_, ?_, ?_, ?_, ?_⟩, ⟨?_, Nat.zero_le _, fun p hp => absurd hp (Nat.not_lt_zero _)⟩, ⟨?_, Nat.zero_le _, fun p hp => absurd hp (Nat.not_lt_zero _)⟩⟩
    · exact (e00 2).trans rfl
    · exact (e00 3).trans rfl
    · exact (e00 4).trans rfl
    · exact (e00 5).trans rfl
    · exact (e00 6).trans rfl
    · exact (e00 7).trans rfl
    · exact (e00 8).trans rfl
    · exact (eg 1 1 (by decide)).trans rfl
    · exact (eg 3 1 (by decide)).trans rfl
  · have ec : ∀ j, zzC I x (x + r0 + 2 + 31 + 1 * c) j = 0 := fun j => by
      have := e (33 + c) j (by omega)
      rw [show x + r0 + (33 + c) = x + r0 + 2 + 31 + 1 * c by omega] at this
      rw [this]
      unfold iR1
      rw [if_neg (by omega), if_neg (by omega)]
    exact ⟨(ec 0).trans rfl, (ec 1).trans rfl, (ec 2).trans rfl, (ec 3).trans rfl, (ec 4).trans rfl⟩
theorem zCl_S {I : zI} {x : Nat} : zCl (zzC I x) (zzC I x) x (fun _ => 0) 0 (-1) zBlank [] := by
  refine ⟨⟨?_, by decide, fun _ => Nat.zero_lt_succ _, fun k hk => absurd hk (Nat.not_lt_zero _)⟩, ?_, ?_, zWf_blank, ⟨?_, zFar.rf⟩, ⟨0, by decide, ?_, ?_, Nat.zero_le _, fun i u hu => by cases hu⟩, fun u hu => by cases hu⟩
  · exact (zzC_at (d := 1) (by decide)).trans rfl
  · exact (zzC_at (I := I) (z := x) (d := 0) (by decide)).trans rfl
  · exact zRw_S (by decide) (fun d j hd => by unfold iC; rw [if_neg (by omega), if_neg (by omega), if_pos (by omega), Nat.add_sub_cancel_left])
  · exact zRw_S (by decide) (fun d j hd => by unfold iC; rw [if_neg (by omega), if_neg (by omega), if_neg (by omega), if_pos (by omega), Nat.add_sub_cancel_left])
  · exact (zzC_at (d := 139) (by decide)).trans rfl
  · exact (zzC_at (d := 139) (by decide)).trans rfl
theorem vIdx_0 {v : Int32} {n : Nat} (h : n = 0) : vIdx v n = none := by
  subst h
  cases e : vIdx v 0 with
  | none => rfl
  | some k => exact absurd (vIdx_some e).1 (Nat.not_lt_zero _)
theorem vIdx_m1 {n : Nat} (hn : n < 2 ^ 31) : vIdx (-1) n = none := by
  cases e : vIdx (-1) n with
  | none => rfl
  | some k => obtain ⟨h1, h2⟩ := vIdx_some e; exact absurd h2.symm (zm1 (by omega))
theorem vIdx_z {n : Nat} (hn : n < 2 ^ 31) (h : 0 < n) : vIdx (0 : Int32) n = some 0 := vIdx_is (k := 0) hn h
theorem vTick_z {n : Nat} : vTick (0 : Int32) n = none := if_pos rfl
section ZGE
variable {S : zS} {t : Nat → Nat} {f : Nat}
theorem zN_join0 {a b : Int32} (h : zng S = 0) : rJoin S (0 : Int32) a b = (0 + 1, 0) := by unfold rJoin; rw [vIdx_0 h]
theorem zN_leave0 {a b : Int32} (h : zng S = 0) : rLeave S (0 : Int32) a b = (0 + 1, 0) := by unfold rLeave; rw [vIdx_0 h]
theorem zN_list0 {b : Int32} (h : znc S = 0) : rList S (0 : Int32) b = (0 + 1, 0) := by unfold rList; rw [vIdx_0 h]
theorem zN_charge0 {b : Int32} (h : znc S = 0) : rCharge S (0 : Int32) b = (0 + 1, 0) := by unfold rCharge; rw [vIdx_0 h]
theorem zN_mode0 {b : Int32} (h : zng S = 0) : rMode S (0 : Int32) b = (0 + 1, 0) := by unfold rMode; rw [vIdx_0 h]
theorem zN_key3 : rKey S (3 : Int32) = (0 + 1, 0) := by unfold rKey; rw [show vIdx 3 3 = none by decide]
theorem zN_tick0 : rTick S (0 : Int32) = (0 + 1, 0) := by unfold rTick; rw [vTick_z]
theorem zN_load : rLoad t 0 (501 : Int32) = (0 + 1, 0) := by unfold rLoad; rw [show vIdx 501 (0 + 1) = none by decide]
theorem zN_find : rFind S t 0 (501 : Int32) = (0 + 1, 0) := by unfold rFind; rw [show vIdx 501 (0 + 1) = none by decide]
theorem zN_inLine2 (h : 0 < zng S) (h6 : zng S ≤ 6) {b : Int32} : rInLine S (0 : Int32) (2 : Int32) b = (1 + 1, 0) := by
  unfold rInLine; rw [vIdx_z (by omega) h]; dsimp only; rw [show vIdx 2 2 = none by decide]
theorem zN_inLineP (h : 0 < zng S) (h6 : zng S ≤ 6) (hl : (sL S 0 0).length ≤ 10) : rInLine S (0 : Int32) (0 : Int32) (-1 : Int32) = (2 + 1, 0) := by
  unfold rInLine; rw [vIdx_z (by omega) h]; dsimp only; rw [show vIdx (0 : Int32) 2 = some 0 by decide]; dsimp only; rw [vIdx_m1 (by omega)]
theorem zN_why (h : 0 < znc S) (h12 : znc S ≤ 12) : rWhy S (0 : Int32) (2 : Int32) = (1 + 1, 0) := by
  unfold rWhy; rw [vIdx_z (by omega) h]; dsimp only; rw [show vIdx 2 2 = none by decide]
theorem vIdx_m2 {n : Nat} (hn : n < 2 ^ 30) : vIdx (-2) n = none := by
  cases e : vIdx (-2) n with
  | none => rfl
  | some k =>
    obtain ⟨h1, h2⟩ := vIdx_some e
    have h3 := congrArg Int32.toInt h2
    rw [nI_toInt (by omega), show (-2 : Int32).toInt = -2 by decide] at h3
    omega
theorem zN_whyJoinC {a : Int32} (h : 0 < zng S) (h6 : zng S ≤ 6) (h12 : znc S ≤ 12) : rWhyJoin S (0 : Int32) a (-2 : Int32) = (0 + 1, 0) := by
  unfold rWhyJoin; rw [vIdx_z (by omega) h]; dsimp only
  rw [show vWho (-2) (znc S) = none by unfold vWho; rw [if_neg (by decide), vIdx_m2 (by omega)]; rfl]
theorem zN_whyJoinS (h : 0 < zng S) (h6 : zng S ≤ 6) : rWhyJoin S (0 : Int32) (2 : Int32) (-1 : Int32) = (1 + 1, 0) := by
  unfold rWhyJoin; rw [vIdx_z (by omega) h]; dsimp only; rw [vWho_0]; dsimp only; rw [show vIdx 2 2 = none by decide]
theorem zN_best : rBest S (-1 : Int32) = (0 + 1, 0) := by unfold rBest; rw [vIdx_m1 (by decide)]
theorem zN_next (h6 : zng S ≤ 6) : rNext S (-1 : Int32) = (0 + 1, 0) := by unfold rNext; rw [vIdx_m1 (by omega)]
theorem zN_through (h12 : znc S ≤ 12) : rThrough S (-1 : Int32) = (0 + 1, 0) := by unfold rThrough; rw [vIdx_m1 (by omega)]
theorem zN_inside : rInside S (201 : Int32) = (0 + 1, 0) := by unfold rInside; rw [show vTick 201 201 = none by decide]
theorem zN_follow : rFollow S (0 : Int32) = (0 + 1, 0) := by unfold rFollow; rw [vTick_z]
theorem qAhead_lt {g : Nat} (h6 : zng S ≤ 6) : qAhead S g ≤ 6 := by
  have := nsum_le (f := fun o => if qLen S g < qLen S o ∨ (qLen S o = qLen S g ∧ o < g) then 1 else 0) (b := 1) (fun i => by split <;> omega) (zng S)
  unfold qAhead
  omega
theorem zN_rank (h6 : zng S ≤ 6) : rRank S (-1 : Int32) = (0 + 1, 0) := by
  unfold rRank qRank
  cases e : (List.range (zng S)).find? (fun g => decide (nI (qAhead S g) = -1)) with
  | none => rfl
  | some g =>
    have h8 := List.find?_some e
    have h9 : nI (qAhead S g) = -1 := of_decide_eq_true h8
    have := qAhead_lt (g := g) h6
    exact absurd h9 (zm1 (by omega))
theorem zN_mode3 (h : 0 < zng S) (h6 : zng S ≤ 6) : rMode S (0 : Int32) (3 : Int32) = (1 + 1, 0) := by
  unfold rMode; rw [vIdx_z (by omega) h]; dsimp only; rw [show vIdx 3 3 = none by decide]
theorem zN_charge00 (h : 0 < znc S) (h12 : znc S ≤ 12) : rCharge S (0 : Int32) (0 : Int32) = (1 + 1, 0) := by
  unfold rCharge; rw [vIdx_z (by omega) h]; dsimp only; rw [vTick_z]
theorem zN_join2 (h : 0 < zng S) (h6 : zng S ≤ 6) : rJoin S (0 : Int32) (2 : Int32) (-1 : Int32) = (1 + 1, 0) := by
  unfold rJoin; rw [vIdx_z (by omega) h]; dsimp only; rw [vWho_0]; dsimp only; rw [show vIdx 2 2 = none by decide]
end ZGE
theorem zTx_S {I : zI} {x w : Nat} (hC : zCl I I x (fun _ => 0) 0 (-1) zBlank []) (h : ∀ j, I w j = 0) : zTx I x w (-1) zBlank [] [] :=
  ⟨fun _ => 0, hC, fun i hi => absurd hi (Nat.not_lt_zero _), ⟨h 0, fun k hk => by rw [h, show min 4 (List.length ([] : List Nat) - (List.length ([] : List Nat) / 20 * 20 + 4 * k)) = 0 by show min 4 (0 - _) = 0; omega]; rfl⟩, fun y hy => by cases hy⟩
