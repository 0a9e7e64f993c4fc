/-! ===== the law's forty acts ===== -/
def zBg (K : zKt) (J : zI) (be n m : Nat) (Ss : Nat → zS) (d : Nat) : Prop := ∀ i : Nat, i < d → ∃ B : Nat → Nat, K.2 be i = some (B 0) ∧ zSh K B n m ∧ zSt J B n m (Ss i) ∧ ∀ k : Nat, zvd n m k → be < B k
theorem zBg.bf {K : zKt} {J : zI} {be x n m d : Nat} {Ss : Nat → zS} (h : zBg K J be n m Ss d) (hx : x + 501 ≤ be) : zBf K J be x n m Ss d := fun i hi => by
  obtain ⟨B, b1, b2, b3, b4⟩ := h i hi
  exact ⟨B, b1, b2, b3, fun k hk => by have := b4 k hk; omega⟩
theorem zBg.step {K K' : zKt} {J J' : zI} {be z n m d : Nat} {Ss : Nat → zS} (h : zBg K J be n m Ss d) (hx : kex K K') (hkf : kfr K z) (hK : ∀ q : Nat, be < q → q < z → K'.2 q = K.2 q) (hbe : ∀ i : Nat, i < d → K'.2 be i = K.2 be i) (hJ : ∀ q : Nat, be < q → q < z → J' q = J q) : zBg K' J' be n m Ss d := by
  intro i hi
  obtain ⟨B, b1, b2, b3, b4⟩ := h i hi
  exact ⟨B, (hbe i hi).trans b1, b2.on hx (fun k hk => hK _ (b4 k hk) (b2.lt hkf k hk)), b3.on (fun k hk => hJ _ (b4 k hk) (b2.lt hkf k hk)), b4⟩
theorem zBg.push {K : zKt} {J : zI} {be n m d : Nat} {Ss : Nat → zS} {S : zS} {B : Nat → Nat} (h : zBg K J be n m Ss d) (b1 : K.2 be d = some (B 0)) (b2 : zSh K B n m) (b3 : zSt J B n m S) (b4 : ∀ k : Nat, zvd n m k → be < B k) : zBg K J be n m (fun i => if i = d then S else Ss i) (d + 1) := by
  intro i hi
  by_cases q : i = d
  · subst q
    refine ⟨B, b1, b2, ?_, b4⟩
    dsimp only
    rw [if_pos rfl]; exact b3
  · obtain ⟨B2, c1, c2, c3, c4⟩ := h i (by omega)
    refine ⟨B2, c1, c2, ?_, c4⟩
    dsimp only
    rw [if_neg q]; exact c3
theorem zU_push {U : List zS} {S : zS} {Ss : Nat → zS} {d : Nat} (h : ∀ j : Nat, j < 8 → j < d → U[j]? = some (Ss (d - 1 - j))) : ∀ j : Nat, j < 8 → j < d + 1 → (qPush S U)[j]? = some ((fun i => if i = d then S else Ss i) (d + 1 - 1 - j)) := by
  intro j h1 h2
  unfold qPush
  rw [List.getElem?_take_of_lt h1]
  dsimp only
  cases j with
  | zero => rw [if_pos (by omega)]; rfl
  | succ j =>
    rw [if_neg (by omega), show d + 1 - 1 - (j + 1) = d - 1 - j by omega]
    exact h j (by omega) (by omega)
set_option maxRecDepth 20000 in
theorem zla_law {l : Launch} {D : va_G} {b0 : Nat} {tA : Nat → ClassId} {sa sv : Nat → Nat} {p : Program} {e : Env} {s : State} {m : MethodId} {args : Array Value} {below : List Frame} {meth : Method} {c : Code} {Q : State → Prop} {x r be n7 m7 : Nat} {t : Nat → Nat} {er : Int32} {i : Nat} {A : Nat → Nat} {c1 s1 : Nat}
    (X : zX p l e room_1 s m args below meth c RL cL_law 11 (some .boolean) D b0 tA sa sv) (hn1 : 0 < n7) (hm1 : 0 < m7) (hE : zEn x r A n7 m7) (hA9 : ∀ i, zvd n7 m7 i → A i < be) (hr9 : r < be) (hxb : x + 501 ≤ be) (hc0 : c1 ≤ 580000) (hs0 : s1 ≤ 6800000) (hk : ∀ (K9 : zKt) (J : zI) (cells slots : Nat), cells ≤ c1 + 7000 → slots ≤ s1 + 48000 → zG p l e room_1 s m args below meth c 11 D b0 tA sa cells slots Q K9 4 [some (vr (sa 37) (61)), some (vi ((1 : Int32))), some (vi ((nI (i + 1)))), none, none, none, none, none, none, none, none] [] J) :
    ∀ (n : Nat) (t9 d : Nat) (K9 : zKt) (J : zI) (S : zS) (U : List zS) (Ss : Nat → zS) (cells slots : Nat), t9 ≤ 40 → d ≤ t9 → K9.1 be = some 23 → zSh K9 A n7 m7 → zWd J x t 0 er S U A n7 m7 S → zGp S → zBg K9 J be n7 m7 Ss d → (∀ j : Nat, j < 8 → j < d → U[j]? = some (Ss (d - 1 - j))) → (∀ i : Nat, i < d → zGp (Ss i)) → cells ≤ c1 + 150 * t9 → slots ≤ s1 + 1100 * t9 → 40 - t9 < n → zG p l e room_1 s m args below meth c 11 D b0 tA sa cells slots Q K9 211 [some (vr (sa 37) (61)), some (vi ((1 : Int32))), some (vi ((nI i))), some (vr (x) 7), none, some (vr (r) 16), some (vr (A (0)) 17), some (vr (be) 23), some (vi ((nI d))), some (vi ((nI t9))), none] [] J := by
  intro n
  induction n with
  | zero => intro t9 d K9 J S U Ss cells slots i1 iD iK iS iW iG iB iU iGs ic is i9; exact absurd i9 (Nat.not_lt_zero _)
  | succ n ih =>
    intro t9 d K9 J S U Ss cells slots i1 iD iK iS iW iG iB iU iGs ic is i9
    refine zr_iload9 X dL_law_211 ?_
    refine zr_bipush (v := (40 : Int32)) X dL_law_213 (by decide) ?_
    refine zr_nicmp_ge X (t9) (40) (tgt := 277) (by omega) (by omega) dL_law_215 (by decide) (fun h1 => ?_) (fun h1 => ?_)
    · skip
      refine zr_iconst (v := (0 : Int32)) X dL_law_277 (by decide) ?_
      refine zr_istore9 X (by decide) rfl dL_law_278 ?_
      refine zr_forget (lv2 := [some (vr (sa 37) (61)), some (vi ((1 : Int32))), some (vi ((nI i))), some (vr (x) 7), none, none, none, some (vr (be) 23), some (vi ((nI d))), some (vi ((0 : Int32))), none]) (fun j9 v9 h9 => by rcases j9 with _ | _ | _ | _ | _ | _ | _ | _ | _ | _ | _ | j9 <;> first | exact h9 | (simp at h9; done) | (simp at h9)) ?_
      exact zlu_law (c0 := c1 + 6500) (s0 := s1 + 44500) X hn1 hm1 (by omega) (by omega) (fun J2 c9 s9 q1 q2 => hk K9 J2 c9 s9 (by omega) (by omega)) 9 0 d J S U cells slots (by omega) (by omega) iW.1 (iB.bf hxb) (fun j q1 q2 => iU j (by omega) q2) iGs ⟨iW.2.ng, iW.2.nc⟩ (by omega) (by omega) (by omega)
    · skip
      refine zr_iload1 X dL_law_218 ?_
      refine zr_if_eq (tgt := 277) X dL_law_219 (by decide) (fun h => absurd h (by decide)) (fun _ => ?_)
      refine zr_aload7 X dL_law_222 ?_
      refine zr_iload8 X dL_law_224 ?_
      refine zr_aload6 X dL_law_226 ?_
      refine zr_callVD (rm9 := zrm_X12_copy) (As := []) (st := [vi ((nI d)), vr (be) 23]) X zm_L_278 rfl rfl ⟨by decide, Nat.le_of_ble_eq_true rfl⟩ ⟨by simp only [room_1, zrm_L_act, zrm_X12_copy, zrm_L_agrees]; omega, by simp only [room_1, zrm_L_act, zrm_X12_copy, zrm_L_agrees]; omega⟩ (Nat.le_of_ble_eq_true rfl) dL_law_228 ?_
      refine zd_X12_copy (A := A) (n7 := n7) (m7 := m7) (S := S) iS iW.2 iW.1.2.2.2.1.len (fun K2 B J2 ck cx cS cM cge cfr => ?_)
      intro hq9
      have hbe := ck _ _ iK
      have hx3 : kex K9 (kset K2 be d (B 0)) := cx.tr kset_ex
      have hS3 : zSh (kset K2 be d (B 0)) A n7 m7 := iS.on hx3 (fun i hi => by have := hA9 i hi; exact (funext fun j9 => kset_ne (by omega)).trans (cfr _ (by omega)).1)
      have hw3 : zWd J2 x t 0 er S U A n7 m7 S := ⟨iW.1.on (fun q q1 q2 => (cfr q (by omega)).2), iW.2.on (fun i hi => (cfr _ (by have := hA9 i hi; omega)).2)⟩
      refine zr_aastD (k := 23) (n := d) X rfl (show _ < 40 from (by first | decide | omega)) dL_law_231 ?_
      refine zr_aload3 X dL_law_232 ?_
      refine zr_aload6 X dL_law_233 ?_
      refine zr_aload5 X dL_law_235 ?_
      refine zr_callSQ (rm9 := zrm_L_act) (As := [vr (x) 7, vr (A (0)) 17, vr (r) 16]) (st := []) X zm_L_282 rfl rfl ⟨by decide, Nat.le_of_ble_eq_true rfl⟩ ⟨by simp only [room_1, zrm_L_act, zrm_X12_copy, zrm_L_agrees]; omega, by simp only [room_1, zrm_L_act, zrm_X12_copy, zrm_L_agrees]; omega⟩ (Nat.le_of_ble_eq_true rfl) dL_law_237 ?_
      refine zp_L_act (A := A) hS3 hE hw3 iG hn1 hm1 (fun J4 S4 a1 a2 a3 => ?_) (fun J4 a1 a3 => ?_)
      · skip
        refine zr_istore10 X (by decide) rfl dL_law_240 ?_
        refine zr_iload10 X dL_law_242 ?_
        refine zr_iconst (v := (1 : Int32)) X dL_law_244 (by decide) ?_
        refine zr_icmp_ne (tgt := 251) X dL_law_245 (by decide) (fun h => absurd h (by decide)) (fun _ => ?_)
        refine zr_iinc8 (v := (nI (d + 1))) X (show nI (d) + Int32.ofInt 1 = nI (d + 1) from nI_1 (d)) (by decide) rfl dL_law_248 ?_
        refine zr_iload10 X dL_law_251 ?_
        refine zr_if_le (tgt := 269) X dL_law_253 (by decide) (fun h => absurd h (by decide)) (fun _ => ?_)
        refine zr_aload3 X dL_law_256 ?_
        refine zr_aload6 X dL_law_257 ?_
        refine zr_callSQ (rm9 := zrm_L_agrees) (As := [vr (x) 7, vr (A (0)) 17]) (st := []) X zm_L_270 rfl rfl ⟨by decide, Nat.le_of_ble_eq_true rfl⟩ ⟨by simp only [room_1, zrm_L_act, zrm_X12_copy, zrm_L_agrees]; omega, by simp only [room_1, zrm_L_act, zrm_X12_copy, zrm_L_agrees]; omega⟩ (Nat.le_of_ble_eq_true rfl) dL_law_259 ?_
        refine zp_L_agrees (A := A) a1.1 hS3 a1.2 a2.gap ?_
        refine zr_if_eq (tgt := 269) X dL_law_262 (by decide) (fun h => absurd h (by decide)) (fun _ => ?_)
        refine zr_iconst (v := (1 : Int32)) X dL_law_265 (by decide) ?_
        refine zr_goto (tgt := 270) X dL_law_266 (by decide) ?_
        refine zr_istore1 X (by decide) rfl dL_law_270 ?_
        refine zr_iinc9 (v := (nI (t9 + 1))) X (show nI (t9) + Int32.ofInt 1 = nI (t9 + 1) from nI_1 (t9)) (by decide) rfl dL_law_271 ?_
        refine zr_goto (tgt := 211) X dL_law_274 (by decide) ?_
        have hB4 : zBg (kset K2 be d (B 0)) J4 be n7 m7 Ss d := iB.step hx3 ck (fun q q1 q2 => (funext fun j9 => kset_ne (by omega)).trans (cfr q q2).1) (fun i hi => (kset_nj (by omega)).trans (congrFun (cfr be hbe).1 i)) (fun q q1 q2 => (a3 q (Or.inr (by omega)) (by omega) (fun i hi => by have := hA9 i hi; omega)).trans (cfr q q2).2)
        have hcb : ∀ k, zvd n7 m7 k → be < B k := fun k hk => by have := cge k hk; omega
        refine zr_more (k := cells + 150) (n := slots + 1100) (by simp only [room_1, zrm_L_act, zrm_X12_copy, zrm_L_agrees]; omega) (by simp only [room_1, zrm_L_act, zrm_X12_copy, zrm_L_agrees]; omega) ?_
        refine zr_forget (lv2 := [some (vr (sa 37) (61)), some (vi ((1 : Int32))), some (vi ((nI i))), some (vr (x) 7), none, some (vr (r) 16), some (vr (A (0)) 17), some (vr (be) 23), some (vi ((nI (d + 1)))), some (vi ((nI (t9 + 1)))), none]) (fun j9 v9 h9 => by rcases j9 with _ | _ | _ | _ | _ | _ | _ | _ | _ | _ | _ | j9 <;> first | exact h9 | (simp at h9; done) | (simp at h9)) ?_
        exact ih (t9 + 1) (d + 1) (kset K2 be d (B 0)) J4 S4 _ (fun i => if i = d then S else Ss i) _ _ (by omega) (by omega) (hx3 _ _ iK) hS3 a1 a2 (hB4.push kset_eq (cS.on kset_ex (fun k hk => by have := hcb k hk; exact funext fun j9 => kset_ne (by omega))) (cM.on (fun k hk => a3 _ (Or.inr (by have := hcb k hk; omega)) (by have := hcb k hk; omega) (fun i hi => by have := hA9 i hi; have := hcb k hk; omega))) hcb) (zU_push iU) (fun i hi => by split; exact iG; exact iGs i (by omega)) (by omega) (by omega) (by omega)
      · skip
        refine zr_istore10 X (by decide) rfl dL_law_240 ?_
        refine zr_iload10 X dL_law_242 ?_
        refine zr_iconst (v := (1 : Int32)) X dL_law_244 (by decide) ?_
        refine zr_icmp_ne (tgt := 251) X dL_law_245 (by decide) (fun _ => ?_) (fun h => absurd h (by decide))
        refine zr_iload10 X dL_law_251 ?_
        refine zr_if_le (tgt := 269) X dL_law_253 (by decide) (fun h => absurd h (by decide)) (fun _ => ?_)
        refine zr_aload3 X dL_law_256 ?_
        refine zr_aload6 X dL_law_257 ?_
        refine zr_callSQ (rm9 := zrm_L_agrees) (As := [vr (x) 7, vr (A (0)) 17]) (st := []) X zm_L_270 rfl rfl ⟨by decide, Nat.le_of_ble_eq_true rfl⟩ ⟨by simp only [room_1, zrm_L_act, zrm_X12_copy, zrm_L_agrees]; omega, by simp only [room_1, zrm_L_act, zrm_X12_copy, zrm_L_agrees]; omega⟩ (Nat.le_of_ble_eq_true rfl) dL_law_259 ?_
        refine zp_L_agrees (A := A) a1.1 hS3 a1.2 iG.gap ?_
        refine zr_if_eq (tgt := 269) X dL_law_262 (by decide) (fun h => absurd h (by decide)) (fun _ => ?_)
        refine zr_iconst (v := (1 : Int32)) X dL_law_265 (by decide) ?_
        refine zr_goto (tgt := 270) X dL_law_266 (by decide) ?_
        refine zr_istore1 X (by decide) rfl dL_law_270 ?_
        refine zr_iinc9 (v := (nI (t9 + 1))) X (show nI (t9) + Int32.ofInt 1 = nI (t9 + 1) from nI_1 (t9)) (by decide) rfl dL_law_271 ?_
        refine zr_goto (tgt := 211) X dL_law_274 (by decide) ?_
        have hB4 : zBg (kset K2 be d (B 0)) J4 be n7 m7 Ss d := iB.step hx3 ck (fun q q1 q2 => (funext fun j9 => kset_ne (by omega)).trans (cfr q q2).1) (fun i hi => (kset_nj (by omega)).trans (congrFun (cfr be hbe).1 i)) (fun q q1 q2 => (a3 q (Or.inr (by omega)) (by omega) (fun i hi => by have := hA9 i hi; omega)).trans (cfr q q2).2)
        have hcb : ∀ k, zvd n7 m7 k → be < B k := fun k hk => by have := cge k hk; omega
        refine zr_more (k := cells + 150) (n := slots + 1100) (by simp only [room_1, zrm_L_act, zrm_X12_copy, zrm_L_agrees]; omega) (by simp only [room_1, zrm_L_act, zrm_X12_copy, zrm_L_agrees]; omega) ?_
        refine zr_forget (lv2 := [some (vr (sa 37) (61)), some (vi ((1 : Int32))), some (vi ((nI i))), some (vr (x) 7), none, some (vr (r) 16), some (vr (A (0)) 17), some (vr (be) 23), some (vi ((nI d))), some (vi ((nI (t9 + 1)))), none]) (fun j9 v9 h9 => by rcases j9 with _ | _ | _ | _ | _ | _ | _ | _ | _ | _ | _ | j9 <;> first | exact h9 | (simp at h9; done) | (simp at h9)) ?_
        exact ih (t9 + 1) d (kset K2 be d (B 0)) J4 S U Ss _ _ (by omega) (by omega) (hx3 _ _ iK) hS3 a1 iG hB4 iU iGs (by omega) (by omega) (by omega)
