/-! ===== the class beside the law's station ===== -/
/-- the class at x, the station at A, the random numbers at r lie apart -/
def zEn (x r : Nat) (A : Nat → Nat) (n m : Nat) : Prop := (∀ i : Nat, zvd n m i → x + 501 ≤ A i) ∧ x + 501 ≤ r ∧ ∀ i : Nat, zvd n m i → r ≠ A i
/-- nothing else has changed -/
def zfa (I J : zI) (x r : Nat) (A : Nat → Nat) (n m : Nat) : Prop := ∀ q : Nat, (q < x ∨ x + 501 ≤ q) → q ≠ r → (∀ i : Nat, zvd n m i → q ≠ A i) → J q = I q
theorem zfa.rf {I : zI} {x r : Nat} {A : Nat → Nat} {n m : Nat} : zfa I I x r A n m := fun _ _ _ _ => rfl
theorem zfa.tr {I J L : zI} {x r : Nat} {A : Nat → Nat} {n m : Nat} (h : zfa I J x r A n m) (g : zfa J L x r A n m) : zfa I L x r A n m := fun q a b c => (g q a b c).trans (h q a b c)
def zWd (I : zI) (x : Nat) (t : Nat → Nat) (f : Nat) (er : Int32) (S : zS) (U : List zS) (A : Nat → Nat) (n m : Nat) (T : zS) : Prop := zCl I I x t f er S U ∧ zSt I A n m T
theorem zWd.cls {I J : zI} {x r f f' : Nat} {t t' : Nat → Nat} {er er' : Int32} {S S' T : zS} {U U' : List zS} {A : Nat → Nat} {n m : Nat} (hE : zEn x r A n m) (h : zWd I x t f er S U A n m T) (hJ : zCl I J x t' f' er' S' U') : zWd J x t' f' er' S' U' A n m T ∧ zfa I J x r A n m :=
  ⟨⟨hJ.re, h.2.on (fun i hi => hJ.2.2.2.2.1.2 _ (Or.inr (hE.1 i hi)))⟩, fun q a _ _ => hJ.2.2.2.2.1.2 q a⟩
theorem zWd.stn {I J : zI} {x r f : Nat} {t : Nat → Nat} {er : Int32} {S T T' : zS} {U : List zS} {A : Nat → Nat} {n m : Nat} (hE : zEn x r A n m) (h : zWd I x t f er S U A n m T) (hg : zgA I J A n m) (hM : zSt J A n m T') : zWd J x t f er S U A n m T' ∧ zfa I J x r A n m :=
  ⟨⟨h.1.on (fun q a b => hg q (fun i hi => by have := hE.1 i hi; omega)), hM⟩, fun q _ _ c => hg q c⟩
theorem zWd.rnd {I : zI} {x r f : Nat} {t : Nat → Nat} {er v : Int32} {S T : zS} {U : List zS} {A : Nat → Nat} {n m : Nat} (hE : zEn x r A n m) (h : zWd I x t f er S U A n m T) : zWd (zput I r 0 v) x t f er S U A n m T ∧ zfa I (zput I r 0 v) x r A n m :=
  ⟨⟨h.1.on (fun q a b => zput_nq (by have := hE.2.1; omega)), h.2.on (fun i hi => zput_nq (fun z => hE.2.2 i hi z.symm))⟩, fun q _ b _ => zput_nq b⟩
theorem zw_X11_below {l : Launch} {D : va_G} {b0 : Nat} {tA : Nat → ClassId} {sa sv : Nat → Nat} {K : zKt} {I : zI} {Qp : zI → Option AV → Prop} {Xp : String → zI → Prop} {x r b f : Nat} {t : Nat → Nat} {er : Int32} {S T : zS} {U : List zS} {A : Nat → Nat} {n m : Nat} (hE : zEn x r A n m) (h : zWd I x t f er S U A n m T) (hb : 0 < b) (hb2 : b < 2 ^ 30) (k1 : ∀ (J : zI) (v : Nat), v < b → zWd J x t f er S U A n m T → zfa I J x r A n m → Qp J (some (vi (nI v)))) :
    zC l D b0 tA sa sv K yX11_below (.code yX11_below cX11_below 2 (some .int)) zrm_X11_below [vr r 16, vi (nI b)] I Qp Xp := by
  refine zp_X11_below hb hb2 (fun v r9 h9 => ?_)
  obtain ⟨g1, g2⟩ := zWd.rnd (v := v) hE h
  exact k1 _ _ h9 g1 g2
theorem nI_m1 {n : Nat} (h : n < 2 ^ 31) : ¬ nI n = -1 := zm1 h
theorem vWho_0 {n : Nat} : vWho (-1) n = some 0 := if_pos rfl
theorem vWho_c {n c : Nat} (hn : n < 2 ^ 31) (hc : c < n) : vWho (nI c) n = some (c + 1) := by
  unfold vWho
  rw [if_neg (zm1 (by omega)), vIdx_is hn hc]; rfl
theorem vTick_is {n k : Nat} (hn : n < 2 ^ 31) (h1 : 1 ≤ k) (hk : k < n) : vTick (nI k) n = some k := by
  unfold vTick
  rw [if_neg (fun z => by have := (zn_i0 (a := k) (by omega)).1.mp z; omega), vIdx_is hn hk]
theorem zR_join0 {S : zS} {g s : Nat} (hg : g < zng S) (h6 : zng S ≤ 6) (hs : s < 2) : rJoin S (nI g) (nI s) (-1) = (0, rJoin1 S g s 0) ∧ sJoin S (nI g) (nI s) (-1) = sJoin1 S g s 0 := by
  unfold rJoin sJoin
  rw [vIdx_is (by omega) hg]
  dsimp only
  rw [vWho_0]
  dsimp only
  rw [vIdx_is (by decide) hs]
  exact ⟨rfl, rfl⟩
theorem zR_join1 {S : zS} {g s c : Nat} (hg : g < zng S) (h6 : zng S ≤ 6) (hs : s < 2) (hc : c < znc S) (h12 : znc S ≤ 12) : rJoin S (nI g) (nI s) (nI c) = (0, rJoin1 S g s (c + 1)) ∧ sJoin S (nI g) (nI s) (nI c) = sJoin1 S g s (c + 1) := by
  unfold rJoin sJoin
  rw [vIdx_is (by omega) hg]
  dsimp only
  rw [vWho_c (by omega) hc]
  dsimp only
  rw [vIdx_is (by decide) hs]
  exact ⟨rfl, rfl⟩
theorem zR_leaveN {S : zS} {g s : Nat} (hg : g < zng S) (h6 : zng S ≤ 6) (hs : s < 2) (hl : (sL S g s).length ≤ 10) : rLeave S (nI g) (nI s) (nI (sL S g s).length) = (3, 0) := by
  unfold rLeave
  rw [vIdx_is (by omega) hg]
  dsimp only
  rw [vIdx_is (by decide) hs]
  dsimp only
  rw [vIdx_no (by omega)]
theorem zR_leaveD {S : zS} {g s : Nat} (hg : g < zng S) (h6 : zng S ≤ 6) (hs : s < 2) (hl : (sL S g s).length ≤ 10) (h0 : 0 < (sL S g s).length) (h3 : sG S g 3 = 1) (h2 : sG S g 2 = nI (s + 1)) : rLeave S (nI g) (nI s) (nI 0) = (4, 0) := by
  unfold rLeave
  rw [vIdx_is (by omega) hg]
  dsimp only
  rw [vIdx_is (by decide) hs]
  dsimp only
  rw [vIdx_is (by omega) h0]
  dsimp only
  rw [if_pos ⟨rfl, h3, h2⟩]
theorem zR_leave {S : zS} {g s p : Nat} (hg : g < zng S) (h6 : zng S ≤ 6) (hs : s < 2) (hl : (sL S g s).length ≤ 10) (hp : p < (sL S g s).length) (hn : ¬ (p = 0 ∧ sG S g 3 = 1 ∧ sG S g 2 = nI (s + 1))) : rLeave S (nI g) (nI s) (nI p) = (0, nI ((sL S g s).length - 1)) ∧ sLeave S (nI g) (nI s) (nI p) = tL S g s ((sL S g s).eraseIdx p) := by
  unfold rLeave sLeave
  rw [vIdx_is (by omega) hg]
  dsimp only
  rw [vIdx_is (by decide) hs]
  dsimp only
  rw [vIdx_is (by omega) hp]
  dsimp only
  rw [if_neg hn]
  exact ⟨rfl, rfl⟩
theorem zR_list {S : zS} {c : Nat} {b : Int32} (hc : c < znc S) (h12 : znc S ≤ 12) : rList S (nI c) b = (0, nI (qListed (tC S c 2 b))) ∧ sList S (nI c) b = tC S c 2 b := by
  unfold rList sList
  rw [vIdx_is (by omega) hc]
  exact ⟨rfl, rfl⟩
theorem zR_chargeN {S : zS} {c k : Nat} (hc : c < znc S) (h12 : znc S ≤ 12) (h1 : 1 ≤ k) (hk : k < 100) (h : (99 : Int32) < sC S c 0 + nI k) : rCharge S (nI c) (nI k) = (3, 0) := by
  unfold rCharge
  rw [vIdx_is (by omega) hc]
  dsimp only
  rw [vTick_is (by decide) h1 hk]
  dsimp only
  rw [if_pos h]
theorem zR_charge {S : zS} {c k : Nat} (hc : c < znc S) (h12 : znc S ≤ 12) (h1 : 1 ≤ k) (hk : k < 100) (h : ¬ (99 : Int32) < sC S c 0 + nI k) : rCharge S (nI c) (nI k) = (0, sC S c 0 + nI k) ∧ sCharge S (nI c) (nI k) = tC S c 0 (sC S c 0 + nI k) := by
  unfold rCharge sCharge
  rw [vIdx_is (by omega) hc]
  dsimp only
  rw [vTick_is (by decide) h1 hk]
  dsimp only
  rw [if_neg h]
  exact ⟨rfl, rfl⟩
theorem zR_modeN {S : zS} {g k : Nat} (hg : g < zng S) (h6 : zng S ≤ 6) (hk : k < 3) (h : ¬ (sG S g 2 = 0 ∧ (qSv (nI k) 0 ∨ sL S g 0 = []) ∧ (qSv (nI k) 1 ∨ sL S g 1 = []))) : rMode S (nI g) (nI k) = (3, 0) := by
  unfold rMode
  rw [vIdx_is (by omega) hg]
  dsimp only
  rw [vIdx_is (by decide) hk]
  dsimp only
  rw [if_neg h]
theorem zR_mode {S : zS} {g k : Nat} (hg : g < zng S) (h6 : zng S ≤ 6) (hk : k < 3) (h : sG S g 2 = 0 ∧ (qSv (nI k) 0 ∨ sL S g 0 = []) ∧ (qSv (nI k) 1 ∨ sL S g 1 = [])) : rMode S (nI g) (nI k) = (0, sG S g 0) ∧ sMode S (nI g) (nI k) = tG S g 0 (nI k) := by
  unfold rMode sMode
  rw [vIdx_is (by omega) hg]
  dsimp only
  rw [vIdx_is (by decide) hk]
  dsimp only
  rw [if_pos h]
  exact ⟨rfl, rfl⟩
theorem zR_key {S : zS} {k : Nat} (hk : k < 3) : rKey S (nI k) = (0, zkeys (qKey S k)) ∧ sKey S (nI k) = qKey S k := by
  unfold rKey sKey
  rw [vIdx_is (by decide) hk]
  exact ⟨rfl, rfl⟩
theorem zcd_0 {cs : List Int32} {r : Nat × Int32} {v : Int32} (h : r = (0, v)) : zcd cs r = v := by subst h; rfl
theorem zcd_n {cs : List Int32} {r : Nat × Int32} {i : Nat} (h : r = (i + 1, 0)) : zcd cs r = cs.getD i 0 := by subst h; rfl
theorem zif_0 {α : Type} {a b : α} {r : Nat × Int32} {v : Int32} (h : r = (0, v)) : (if r.1 = 0 then a else b) = a := by subst h; rfl
theorem zif_n {α : Type} {a b : α} {r : Nat × Int32} {i : Nat} (h : r = (i + 1, 0)) : (if r.1 = 0 then a else b) = b := by subst h; rfl
theorem zR_tick {S : zS} {k : Nat} (h1 : 1 ≤ k) (hk : k < 100) : rTick S (nI k) = (0, sX (qTicks S k) 9 + sX (qTicks S k) 10 - (sX S 9 + sX S 10)) ∧ sTick S (nI k) = qTicks S k := by
  unfold rTick sTick
  rw [vTick_is (by decide) h1 hk]
  exact ⟨rfl, rfl⟩
