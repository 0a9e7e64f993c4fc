/-! ===== the law's undoing ===== -/
/-- the first d of the stations that were put by, holding Ss 0, Ss 1, .. -/
def zBf (K : zKt) (J : zI) (be x n m : Nat) (Ss : Nat → zS) (d : Nat) : Prop := ∀ i : Nat, i < d → ∃ B : Nat → Nat, K.2 be i = some (B 0) ∧ zSh K B n m ∧ zSt J B n m (Ss i) ∧ ∀ k : Nat, zvd n m k → x + 501 ≤ B k
theorem zBf.on {K : zKt} {J J' : zI} {be x n m d : Nat} {Ss : Nat → zS} (h : zBf K J be x n m Ss d) (e : ∀ q : Nat, x + 501 ≤ q → J' q = J q) : zBf K J' be x n m Ss d := by
  intro i hi
  obtain ⟨B, b1, b2, b3, b4⟩ := h i hi
  exact ⟨B, b1, b2, b3.on (fun k hk => e _ (b4 k hk)), b4⟩
theorem zBf.le {K : zKt} {J : zI} {be x n m d d' : Nat} {Ss : Nat → zS} (h : zBf K J be x n m Ss d) (hd : d' ≤ d) : zBf K J be x n m Ss d' := fun i hi => h i (by omega)
theorem zhd {α : Type} {U : List α} {a : α} (h : U[0]? = some a) : ∃ r, U = a :: r := by
  cases U with
  | nil => cases h
  | cons b r => cases h; exact ⟨r, rfl⟩
set_option maxRecDepth 20000 in
theorem zlu_law {l : Launch} {D : va_G} {b0 : Nat} {tA : Nat → ClassId} {sa sv : Nat → Nat} {p : Program} {e : Env} {s : State} {m : MethodId} {args : Array Value} {below : List Frame} {meth : Method} {c : Code} {Q : State → Prop} {x be n7 m7 : Nat} {t : Nat → Nat} {er : Int32} {Ss : Nat → zS} {i : Nat} {K9 : zKt} {c0 s0 : Nat}
    (X : zX p l e room_1 s m args below meth c RL cL_law 11 (some .boolean) D b0 tA sa sv) (hn1 : 0 < n7) (hm1 : 0 < m7) (hc0 : c0 ≤ 590000) (hs0 : s0 ≤ 6900000) (hk : ∀ (J : zI) (cells slots : Nat), cells ≤ c0 + 340 → slots ≤ s0 + 3000 → zG p l e room_1 s m args below meth c 11 D b0 tA sa cells slots Q K9 4 [some (vr (sa 37) (61)), some (vi ((1 : Int32))), some (vi ((nI (i + 1)))), none, none, none, none, none, none, none, none] [] J) :
    ∀ (n : Nat) (k d : Nat) (J : zI) (S : zS) (U : List zS) (cells slots : Nat), k ≤ 8 → d ≤ 40 → zCl J J x t 0 er S U → zBf K9 J be x n7 m7 Ss d → (∀ j : Nat, j < 8 - k → j < d → U[j]? = some (Ss (d - 1 - j))) → (∀ i : Nat, i < d → zGp (Ss i)) → (zng S = n7 ∧ znc S = m7) → cells ≤ c0 + 34 * k → slots ≤ s0 + 300 * k → 8 - k < n → zG p l e room_1 s m args below meth c 11 D b0 tA sa cells slots Q K9 280 [some (vr (sa 37) (61)), some (vi ((1 : Int32))), some (vi ((nI i))), some (vr (x) 7), none, none, none, some (vr (be) 23), some (vi ((nI d))), some (vi ((nI k))), none] [] J := by
  intro n
  induction n with
  | zero => intro k d J S U cells slots i1 iD iC iB iU iG iN ic is i9; exact absurd i9 (Nat.not_lt_zero _)
  | succ n ih =>
    intro k d J S U cells slots i1 iD iC iB iU iG iN ic is i9
    refine zr_iload9 X dL_law_280 ?_
    refine zr_bipush (v := (8 : Int32)) X dL_law_282 (by decide) ?_
    refine zr_nicmp_ge X (k) (8) (tgt := 330) (by omega) (by omega) dL_law_284 (by decide) (fun h1 => ?_) (fun h1 => ?_)
    · skip
      refine zr_forget (lv2 := [some (vr (sa 37) (61)), some (vi ((1 : Int32))), some (vi ((nI i))), some (vr (x) 7), none, none, none, none, none, none, none]) (fun j9 v9 h9 => by rcases j9 with _ | _ | _ | _ | _ | _ | _ | _ | _ | _ | _ | j9 <;> first | exact h9 | (simp at h9; done) | (simp at h9)) ?_
      exact zle_law X iC (by omega) (by omega) (by omega) (by omega) (fun J2 => hk J2 _ _ (by omega) (by omega))
    · skip
      refine zr_iload8 X dL_law_287 ?_
      refine zr_nif_le X (d) (tgt := 330) (by omega) dL_law_289 (by decide) (fun h2 => ?_) (fun h2 => ?_)
      · skip
        refine zr_forget (lv2 := [some (vr (sa 37) (61)), some (vi ((1 : Int32))), some (vi ((nI i))), some (vr (x) 7), none, none, none, none, none, none, none]) (fun j9 v9 h9 => by rcases j9 with _ | _ | _ | _ | _ | _ | _ | _ | _ | _ | _ | j9 <;> first | exact h9 | (simp at h9; done) | (simp at h9)) ?_
        exact zle_law X iC (by omega) (by omega) (by omega) (by omega) (fun J2 => hk J2 _ _ (by omega) (by omega))
      · skip
        refine zr_iload1 X dL_law_292 ?_
        refine zr_if_eq (tgt := 330) X dL_law_293 (by decide) (fun h => absurd h (by decide)) (fun _ => ?_)
        refine zr_iinc8 (v := (nI (d - 1))) X (zdec1 (n := d) (by omega)) (by decide) rfl dL_law_296 ?_
        obtain ⟨r9, rfl⟩ := zhd (iU 0 (by omega) (by omega))
        have hr9 : r9.length ≤ 8 := by have := (zRg_len iC.2.2.2.2.2.1).2; simp only [List.length_cons] at this; omega
        refine zr_aload3 X dL_law_299 ?_
        refine zr_callVQ (rm9 := zrm_X7_undo) (As := []) (st := []) X zm_L_267 rfl rfl ⟨by decide, Nat.le_of_ble_eq_true rfl⟩ ⟨by simp only [room_1, zrm_L_state, zrm_L_find, zrm_L_gate, zrm_L_card, zrm_L_inLine, zrm_L_why, zrm_L_whyNotJoin, zrm_L_bestGate, zrm_L_nextSide, zrm_L_throughIn, zrm_L_insideIn, zrm_L_followersIn, zrm_L_ranked, zrm_L_join, zrm_L_leave, zrm_L_list, zrm_L_charge, zrm_L_mode, zrm_L_key, zrm_L_tick, zrm_L_load, zrm_L_agrees, zrm_X7_errorOffset, zrm_X7_undo]; omega, by simp only [room_1, zrm_L_state, zrm_L_find, zrm_L_gate, zrm_L_card, zrm_L_inLine, zrm_L_why, zrm_L_whyNotJoin, zrm_L_bestGate, zrm_L_nextSide, zrm_L_throughIn, zrm_L_insideIn, zrm_L_followersIn, zrm_L_ranked, zrm_L_join, zrm_L_leave, zrm_L_list, zrm_L_charge, zrm_L_mode, zrm_L_key, zrm_L_tick, zrm_L_load, zrm_L_agrees, zrm_X7_errorOffset, zrm_X7_undo]; omega⟩ (Nat.le_of_ble_eq_true rfl) dL_law_300 ?_
        refine zq_X7_undo iC (fun J1 hJ2 => ?_)
        have hC3 := hJ2.re
        have hBf := iB.on (fun q hq => hJ2.2.2.2.2.1.2 q (Or.inr hq))
        obtain ⟨B, b1, b2, b3, b4⟩ := hBf (d - 1 - 0) (by omega)
        refine zr_eq (x2 := (nI r9.length)) (rfl) ?_
        refine zr_nif_lt X (r9.length) (tgt := 322) (by omega) dL_law_303 (by decide) (fun h => h.elim) (fun _ => ?_)
        refine zr_aload3 X dL_law_306 ?_
        refine zr_aload7 X dL_law_307 ?_
        refine zr_iload8 X dL_law_309 ?_
        refine zr_aaldD (k := 23) (n := (d - 1)) (r := B 0) X rfl (show _ < 40 from (by first | decide | omega)) (b1) dL_law_311 ?_
        refine zr_callSQ (rm9 := zrm_L_agrees) (As := [vr (x) 7, vr (B 0) 17]) (st := []) X zm_L_270 rfl rfl ⟨by decide, Nat.le_of_ble_eq_true rfl⟩ ⟨by simp only [room_1, zrm_L_state, zrm_L_find, zrm_L_gate, zrm_L_card, zrm_L_inLine, zrm_L_why, zrm_L_whyNotJoin, zrm_L_bestGate, zrm_L_nextSide, zrm_L_throughIn, zrm_L_insideIn, zrm_L_followersIn, zrm_L_ranked, zrm_L_join, zrm_L_leave, zrm_L_list, zrm_L_charge, zrm_L_mode, zrm_L_key, zrm_L_tick, zrm_L_load, zrm_L_agrees, zrm_X7_errorOffset, zrm_X7_undo]; omega, by simp only [room_1, zrm_L_state, zrm_L_find, zrm_L_gate, zrm_L_card, zrm_L_inLine, zrm_L_why, zrm_L_whyNotJoin, zrm_L_bestGate, zrm_L_nextSide, zrm_L_throughIn, zrm_L_insideIn, zrm_L_followersIn, zrm_L_ranked, zrm_L_join, zrm_L_leave, zrm_L_list, zrm_L_charge, zrm_L_mode, zrm_L_key, zrm_L_tick, zrm_L_load, zrm_L_agrees, zrm_X7_errorOffset, zrm_X7_undo]; omega⟩ (Nat.le_of_ble_eq_true rfl) dL_law_312 ?_
        refine zp_L_agrees (A := B) hC3 b2 b3 (iG _ (by omega)).gap ?_
        refine zr_if_eq (tgt := 322) X dL_law_315 (by decide) (fun h => absurd h (by decide)) (fun _ => ?_)
        refine zr_iconst (v := (1 : Int32)) X dL_law_318 (by decide) ?_
        refine zr_goto (tgt := 323) X dL_law_319 (by decide) ?_
        refine zr_istore1 X (by decide) rfl dL_law_323 ?_
        refine zr_iinc9 (v := (nI (k + 1))) X (show nI (k) + Int32.ofInt 1 = nI (k + 1) from nI_1 (k)) (by decide) rfl dL_law_324 ?_
        refine zr_goto (tgt := 280) X dL_law_327 (by decide) ?_
        refine zr_more (k := cells + 34) (n := slots + 300) (by simp only [room_1, zrm_L_state, zrm_L_find, zrm_L_gate, zrm_L_card, zrm_L_inLine, zrm_L_why, zrm_L_whyNotJoin, zrm_L_bestGate, zrm_L_nextSide, zrm_L_throughIn, zrm_L_insideIn, zrm_L_followersIn, zrm_L_ranked, zrm_L_join, zrm_L_leave, zrm_L_list, zrm_L_charge, zrm_L_mode, zrm_L_key, zrm_L_tick, zrm_L_load, zrm_L_agrees, zrm_X7_errorOffset, zrm_X7_undo]; omega) (by simp only [room_1, zrm_L_state, zrm_L_find, zrm_L_gate, zrm_L_card, zrm_L_inLine, zrm_L_why, zrm_L_whyNotJoin, zrm_L_bestGate, zrm_L_nextSide, zrm_L_throughIn, zrm_L_insideIn, zrm_L_followersIn, zrm_L_ranked, zrm_L_join, zrm_L_leave, zrm_L_list, zrm_L_charge, zrm_L_mode, zrm_L_key, zrm_L_tick, zrm_L_load, zrm_L_agrees, zrm_X7_errorOffset, zrm_X7_undo]; omega) ?_
        refine ih (k + 1) (d - 1) _ _ _ _ _ (by omega) (by omega) hC3 (hBf.le (by omega)) (fun j h1 h2 => ?_) (fun i hi => iG i (by omega)) ⟨b3.ng, b3.nc⟩ (by omega) (by omega) (by omega)
        have := iU (j + 1) (by omega) (by omega)
        rw [show d - 1 - (j + 1) = d - 1 - 1 - j by omega] at this; exact this
