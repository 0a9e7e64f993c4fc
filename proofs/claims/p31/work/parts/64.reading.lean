/-! ===== how the class reads what the law writes ===== -/
theorem zsk0 {t : Nat → Nat} {n p : Nat} (h : n ≤ p ∨ t p ≠ 32) : tSkip t n p = p := by
  unfold tSkip
  exact zrun_end (fun z => by rcases h with h | h; omega; exact h (of_decide_eq_true z.2))
theorem zsk1 {t : Nat → Nat} {n p : Nat} (hp : p < n) (h1 : t p = 32) (h : n ≤ p + 1 ∨ t (p + 1) ≠ 32) : tSkip t n p = p + 1 := by
  have := zsk0 h
  unfold tSkip at this ⊢
  rw [zrun_go hp (decide_eq_true h1)]; exact this
theorem zel {t : Nat → Nat} {n : Nat} : ∀ (m p : Nat), p + m ≤ n → (∀ i, i < m → tLet (t (p + i)) = true) → (n ≤ p + m ∨ tLet (t (p + m)) = false) → tEndL t n p = p + m
  | 0, p, _, _, he => by
    unfold tEndL
    exact zrun_end (fun z => by rcases he with h | h; omega; rw [Nat.add_zero] at h; have := z.2; rw [h] at this; cases this)
  | m + 1, p, hp, hl, he => by
    have h1 := zel (n := n) m (p + 1) (by omega) (fun i hi => by have := hl (i + 1) (by omega); rwa [show p + (i + 1) = p + 1 + i by omega] at this) (by rwa [show p + (m + 1) = p + 1 + m by omega] at he)
    unfold tEndL at h1 ⊢
    have h0 : tLet (t p) = true := by have := hl 0 (by omega); rwa [Nat.add_zero] at this
    rw [zrun_go (f := fun q => tLet (t q)) (by omega) h0, h1]
    omega
theorem zTokW {t : Nat → Nat} {n p : Nat} {w : List Nat} (hw : 0 < w.length) (hl : ∀ y ∈ w, tLet y = true) (hp : p + w.length ≤ n) (ht : ∀ i, i < w.length → t (p + i) = w.getD i 0) (he : n ≤ p + w.length ∨ tLet (t (p + w.length)) = false) : tIsB t n p w = true ∧ tKind t n p = 2 ∧ tEndL t n p = p + w.length ∧ tNext t n p = tSkip t n (p + w.length) := by
  have hg : ∀ i, i < w.length → tLet (t (p + i)) = true := fun i hi => by
    rw [ht i hi, List.getD_eq_getElem?_getD, List.getElem?_eq_getElem hi]; exact hl _ (List.getElem_mem hi)
  have h0 := hg 0 hw
  rw [Nat.add_zero] at h0
  have he2 := zel w.length p hp hg he
  have hd : tDig (t p) = false := by
    have h9 := tLet_iff.mp h0
    cases e : tDig (t p) with
    | false => rfl
    | true => have := tDig_iff.mp e; omega
  refine ⟨decide_eq_true ⟨by omega, h0, by rw [he2]; omega, ht⟩, ?_, he2, ?_⟩
  · unfold tKind
    rw [if_neg (by omega), hd, if_neg Bool.false_ne_true, if_pos h0]
  · unfold tNext tEnd
    rw [if_neg (by omega), hd, if_neg Bool.false_ne_true, if_pos h0, he2]
theorem zDg {t : Nat → Nat} {n p d : Nat} (hp : p < n) (hd : d < 10) (ht : t p = 48 + d) (he : n ≤ p + 1 ∨ tDig (t (p + 1)) = false) : tKind t n p = 1 ∧ tVal t p (tEndD t n p - p) = d ∧ tNext t n p = tSkip t n (p + 1) := by
  have h0 : tDig (t p) = true := tDig_iff.mpr (by omega)
  have he2 : tEndD t n p = p + 1 := by
    unfold tEndD
    rw [zrun_go hp h0]
    exact zrun_end (fun z => by rcases he with h | h; omega; have := z.2; rw [h] at this; cases this)
  refine ⟨?_, ?_, ?_⟩
  · unfold tKind
    rw [if_neg (by omega), if_pos h0]
  · rw [he2, Nat.add_sub_cancel_left]
    show 10 * 0 + (t (p + 0) - 48) = d
    rw [Nat.add_zero, ht]; omega
  · unfold tNext tEnd
    rw [if_neg (by omega), if_pos h0, he2]
theorem zSm {t : Nat → Nat} {n p : Nat} {S : zS} (hp : p < n) (ht : t p = 59) (he : n ≤ p + 1 ∨ t (p + 1) ≠ 32) : pSemi t n p S = .inr (p + 1, S) ∧ tKind t n p = 3 := by
  have k : tKind t n p = 3 := by
    unfold tKind
    rw [if_neg (by omega), ht]; rfl
  refine ⟨?_, k⟩
  unfold pSemi
  rw [if_pos k]
  unfold tNext tEnd
  rw [if_neg (by omega), ht, if_neg (by decide), if_neg (by decide), zsk0 he]
theorem zisN {t : Nat → Nat} {n p c : Nat} {w : List Nat} (hw : 0 < w.length) (ht : t p = c) (h : c ≠ w.getD 0 0) : ¬ tIsB t n p w = true := fun z => by
  have := (tIsB_iff.mp z).2.2.2 0 hw
  rw [Nat.add_zero, ht] at this
  exact h this
theorem pNum_ok {t : Nat → Nat} {n p lo hi d : Nat} (k : tKind t n p = 1) (v : tVal t p (tEndD t n p - p) = d) (h1 : lo ≤ d) (h2 : d < hi) : pNum t n p lo hi = .inr d := by
  unfold pNum
  rw [if_pos k, v, if_pos ⟨h1, h2⟩]
/-- the name of card c: one letter -/
def zNmC (c : Nat) : Nat → Int32 := fun k => if k = 0 then nI (97 + c) else 0
def zNames (S : zS) : Prop := ∀ i : Nat, i < znc S → sM S i = zNmC i
theorem zNmC_ne {i c : Nat} (hi : i < 12) (hc : c < 13) (h : i ≠ c) : ¬ ∀ k, k < 6 → zNmC i k = zNmC c k := fun z => by
  have := (nI_eq (a := 97 + i) (b := 97 + c) (by omega) (by omega)).mp (z 0 (by decide))
  omega
theorem zFind_in {S : zS} {c : Nat} (hN : zNames S) (h12 : znc S ≤ 12) (hc : c < znc S) : pFind S (zNmC c) = some c :=
  pFind_is hc (fun k _ => by rw [hN c hc]) (fun i hi => by rw [hN i (by omega)]; exact zNmC_ne (by omega) (by omega) (by omega))
theorem zFind_out {S : zS} {c : Nat} (hN : zNames S) (h12 : znc S ≤ 12) (hc : c = znc S) : pFind S (zNmC c) = none := by
  cases e : pFind S (zNmC c) with
  | none => rfl
  | some d =>
    obtain ⟨d1, d2⟩ := pFind_some e
    rw [hN d d1] at d2
    exact absurd d2 (zNmC_ne (by omega) (by omega) (by omega))
theorem zNm_at {t : Nat → Nat} {n p c : Nat} (he : tEndL t n p = p + 1) (ht : t p = 97 + c) : tNmF t n p = zNmC c := by
  funext k
  unfold tNmF zNmC
  rw [he, Nat.add_sub_cancel_left]
  by_cases q : k = 0
  · subst q; rw [if_pos (by decide), if_pos rfl, Nat.add_zero, ht]
  · rw [if_neg (by omega), if_neg q]
theorem zName_ok {t : Nat → Nat} {n p : Nat} (k : tKind t n p = 2) (he : tEndL t n p = p + 1) : pName t n p = none := by
  unfold pName
  rw [if_pos k, he, if_pos (by omega)]
theorem tLet_out {v : Nat} (h : v < 97) : tLet v = false := by
  cases e : tLet v with
  | false => rfl
  | true => have := tLet_iff.mp e; omega
theorem tDig_out {v : Nat} (h : v < 48 ∨ 57 < v) : tDig v = false := by
  cases e : tDig v with
  | false => rfl
  | true => have := tDig_iff.mp e; omega
/-- L is read up to S -/
def zRd (L : List Nat) (S : zS) : Prop := ∀ (t : Nat → Nat) (n : Nat), L.length ≤ n → (∀ i, i < L.length → t i = L.getD i 0) → (n = L.length ∨ t L.length ≠ 32) → pLoad t n = pAll t n (n - L.length) L.length S
theorem zRd.all {L : List Nat} {S : zS} (h : zRd L S) : ∀ t : Nat → Nat, (∀ i, i < L.length → t i = L.getD i 0) → pLoad t L.length = .inr (L.length, S) :=
  fun t ht => (h t L.length (Nat.le_refl _) ht (Or.inl rfl)).trans (pAll_stop (Nat.le_refl _))
theorem zgd_r {L M : List Nat} {i : Nat} : (L ++ M).getD (L.length + i) 0 = M.getD i 0 := by
  rw [List.getD_eq_getElem?_getD, List.getD_eq_getElem?_getD, List.getElem?_append_right (by omega), Nat.add_sub_cancel_left]
theorem zRd.step {L w : List Nat} {S S' : zS} (h : zRd L S) (hw : 0 < w.length) (h0 : w.getD 0 0 ≠ 32)
    (hs : ∀ (t : Nat → Nat) (n p : Nat), p + w.length ≤ n → (∀ i, i < w.length → t (p + i) = w.getD i 0) → (n ≤ p + w.length ∨ t (p + w.length) ≠ 32) → pStmt t n p S = .inr (p + w.length, S')) : zRd (L ++ w) S' := by
  intro t n hn ht he
  rw [List.length_append] at hn he ht ⊢
  have h1 : ∀ i, i < w.length → t (L.length + i) = w.getD i 0 := fun i hi => by rw [ht _ (by omega), zgd_r]
  have hh := h t n (by omega) (fun i hi => by rw [ht i (by omega), zgd_app hi]) (Or.inr (by have := h1 0 hw; rw [Nat.add_zero] at this; rw [this]; exact h0))
  rw [hh, pAll_step (by omega), hs t n L.length hn h1 (by rcases he with he | he; exact Or.inl (by omega); exact Or.inr he)]
theorem zst_gate_in {t : Nat → Nat} {n p : Nat} {S : zS} (h6 : ¬ zng S = 6) (hp : p + 8 ≤ n) (ht : ∀ i, i < 8 → t (p + i) = ([103, 97, 116, 101, 32, 105, 110, 59] : List Nat).getD i 0) (he : n ≤ p + 8 ∨ t (p + 8) ≠ 32) : pStmt t n p S = .inr (p + 8, qAddGate S 0) := by
  have f0 : t (p) = 103 := ht 0 (by decide)
  have f1 : t (p + 1) = 97 := ht 1 (by decide)
  have f2 : t (p + 2) = 116 := ht 2 (by decide)
  have f3 : t (p + 3) = 101 := ht 3 (by decide)
  have f4 : t (p + 4) = 32 := ht 4 (by decide)
  have f5 : t (p + 5) = 105 := ht 5 (by decide)
  have f6 : t (p + 6) = 110 := ht 6 (by decide)
  have f7 : t (p + 7) = 59 := ht 7 (by decide)
  obtain ⟨b0, k0, e0, n0⟩ := zTokW (t := t) (n := n) (p := p) (w := wGate) (by decide) (by decide) (show p + 4 ≤ n by omega) (fun i hi => by rcases (show i = 0 ∨ i = 1 ∨ i = 2 ∨ i = 3 by (have h9 : i < 4 := hi); omega) with rfl | rfl | rfl | rfl <;> assumption) (Or.inr (tLet_out (by rw [show p + List.length wGate = p + 4 from rfl, f4]; first | decide | omega)))
  have n0 : tNext t n p = tSkip t n (p + 4) := n0
  have e0 : tEndL t n p = p + 4 := e0
  rw [show tSkip t n (p + 4) = p + 5 from zsk1 (by omega) f4 (Or.inr (by rw [show p + 4 + 1 = p + 5 from rfl, f5]; first | decide | omega))] at n0
  obtain ⟨b1, k1, e1, n1⟩ := zTokW (t := t) (n := n) (p := (p + 5)) (w := wIn) (by decide) (by decide) (show (p + 5) + 2 ≤ n by omega) (fun i hi => by rcases (show i = 0 ∨ i = 1 by (have h9 : i < 2 := hi); omega) with rfl | rfl <;> assumption) (Or.inr (tLet_out (by rw [show (p + 5) + List.length wIn = p + 7 from rfl, f7]; first | decide | omega)))
  have n1 : tNext t n (p + 5) = tSkip t n (p + 7) := n1
  have e1 : tEndL t n (p + 5) = (p + 5) + 2 := e1
  rw [show tSkip t n (p + 7) = p + 7 from zsk0 (Or.inr (by rw [f7]; decide))] at n1
  have hs := fun S9 : zS => (zSm (S := S9) (p := p + 7) (by omega) f7 he).1
  have hb : pBody t n p S = .inr (p + 7, qAddGate S 0) := by
    unfold pBody; rw [if_pos b0]; unfold pGate; rw [if_neg h6, n0, if_neg (zisN (by decide) f5 (by decide)), if_neg (zisN (by decide) f5 (by decide)), if_pos b1, n1]
  unfold pStmt; rw [hb]; exact hs _
theorem zst_gate_out {t : Nat → Nat} {n p : Nat} {S : zS} (h6 : ¬ zng S = 6) (hp : p + 9 ≤ n) (ht : ∀ i, i < 9 → t (p + i) = ([103, 97, 116, 101, 32, 111, 117, 116, 59] : List Nat).getD i 0) (he : n ≤ p + 9 ∨ t (p + 9) ≠ 32) : pStmt t n p S = .inr (p + 9, qAddGate S 1) := by
  have f0 : t (p) = 103 := ht 0 (by decide)
  have f1 : t (p + 1) = 97 := ht 1 (by decide)
  have f2 : t (p + 2) = 116 := ht 2 (by decide)
  have f3 : t (p + 3) = 101 := ht 3 (by decide)
  have f4 : t (p + 4) = 32 := ht 4 (by decide)
  have f5 : t (p + 5) = 111 := ht 5 (by decide)
  have f6 : t (p + 6) = 117 := ht 6 (by decide)
  have f7 : t (p + 7) = 116 := ht 7 (by decide)
  have f8 : t (p + 8) = 59 := ht 8 (by decide)
  obtain ⟨b0, k0, e0, n0⟩ := zTokW (t := t) (n := n) (p := p) (w := wGate) (by decide) (by decide) (show p + 4 ≤ n by omega) (fun i hi => by rcases (show i = 0 ∨ i = 1 ∨ i = 2 ∨ i = 3 by (have h9 : i < 4 := hi); omega) with rfl | rfl | rfl | rfl <;> assumption) (Or.inr (tLet_out (by rw [show p + List.length wGate = p + 4 from rfl, f4]; first | decide | omega)))
  have n0 : tNext t n p = tSkip t n (p + 4) := n0
  have e0 : tEndL t n p = p + 4 := e0
  rw [show tSkip t n (p + 4) = p + 5 from zsk1 (by omega) f4 (Or.inr (by rw [show p + 4 + 1 = p + 5 from rfl, f5]; first | decide | omega))] at n0
  obtain ⟨b1, k1, e1, n1⟩ := zTokW (t := t) (n := n) (p := (p + 5)) (w := wOut) (by decide) (by decide) (show (p + 5) + 3 ≤ n by omega) (fun i hi => by rcases (show i = 0 ∨ i = 1 ∨ i = 2 by (have h9 : i < 3 := hi); omega) with rfl | rfl | rfl <;> assumption) (Or.inr (tLet_out (by rw [show (p + 5) + List.length wOut = p + 8 from rfl, f8]; first | decide | omega)))
  have n1 : tNext t n (p + 5) = tSkip t n (p + 8) := n1
  have e1 : tEndL t n (p + 5) = (p + 5) + 3 := e1
  rw [show tSkip t n (p + 8) = p + 8 from zsk0 (Or.inr (by rw [f8]; decide))] at n1
  have hs := fun S9 : zS => (zSm (S := S9) (p := p + 8) (by omega) f8 he).1
  have hb : pBody t n p S = .inr (p + 8, qAddGate S 1) := by
    unfold pBody; rw [if_pos b0]; unfold pGate; rw [if_neg h6, n0, if_neg (zisN (by decide) f5 (by decide)), if_pos b1, n1]
  unfold pStmt; rw [hb]; exact hs _
theorem zst_gate_both {t : Nat → Nat} {n p : Nat} {S : zS} (h6 : ¬ zng S = 6) (hp : p + 10 ≤ n) (ht : ∀ i, i < 10 → t (p + i) = ([103, 97, 116, 101, 32, 98, 111, 116, 104, 59] : List Nat).getD i 0) (he : n ≤ p + 10 ∨ t (p + 10) ≠ 32) : pStmt t n p S = .inr (p + 10, qAddGate S 2) := by
  have f0 : t (p) = 103 := ht 0 (by decide)
  have f1 : t (p + 1) = 97 := ht 1 (by decide)
  have f2 : t (p + 2) = 116 := ht 2 (by decide)
  have f3 : t (p + 3) = 101 := ht 3 (by decide)
  have f4 : t (p + 4) = 32 := ht 4 (by decide)
  have f5 : t (p + 5) = 98 := ht 5 (by decide)
  have f6 : t (p + 6) = 111 := ht 6 (by decide)
  have f7 : t (p + 7) = 116 := ht 7 (by decide)
  have f8 : t (p + 8) = 104 := ht 8 (by decide)
  have f9 : t (p + 9) = 59 := ht 9 (by decide)
  obtain ⟨b0, k0, e0, n0⟩ := zTokW (t := t) (n := n) (p := p) (w := wGate) (by decide) (by decide) (show p + 4 ≤ n by omega) (fun i hi => by rcases (show i = 0 ∨ i = 1 ∨ i = 2 ∨ i = 3 by (have h9 : i < 4 := hi); omega) with rfl | rfl | rfl | rfl <;> assumption) (Or.inr (tLet_out (by rw [show p + List.length wGate = p + 4 from rfl, f4]; first | decide | omega)))
  have n0 : tNext t n p = tSkip t n (p + 4) := n0
  have e0 : tEndL t n p = p + 4 := e0
  rw [show tSkip t n (p + 4) = p + 5 from zsk1 (by omega) f4 (Or.inr (by rw [show p + 4 + 1 = p + 5 from rfl, f5]; first | decide | omega))] at n0
  obtain ⟨b1, k1, e1, n1⟩ := zTokW (t := t) (n := n) (p := (p + 5)) (w := wBoth) (by decide) (by decide) (show (p + 5) + 4 ≤ n by omega) (fun i hi => by rcases (show i = 0 ∨ i = 1 ∨ i = 2 ∨ i = 3 by (have h9 : i < 4 := hi); omega) with rfl | rfl | rfl | rfl <;> assumption) (Or.inr (tLet_out (by rw [show (p + 5) + List.length wBoth = p + 9 from rfl, f9]; first | decide | omega)))
  have n1 : tNext t n (p + 5) = tSkip t n (p + 9) := n1
  have e1 : tEndL t n (p + 5) = (p + 5) + 4 := e1
  rw [show tSkip t n (p + 9) = p + 9 from zsk0 (Or.inr (by rw [f9]; decide))] at n1
  have hs := fun S9 : zS => (zSm (S := S9) (p := p + 9) (by omega) f9 he).1
  have hb : pBody t n p S = .inr (p + 9, qAddGate S 2) := by
    unfold pBody; rw [if_pos b0]; unfold pGate; rw [if_neg h6, n0, if_pos b1, n1]
  unfold pStmt; rw [hb]; exact hs _
theorem zst_card {t : Nat → Nat} {n p : Nat} {S : zS} {c v : Nat} (hN : zNames S) (h12 : znc S < 12) (hc : c = znc S) (hv : v < 10) (hp : p + 9 ≤ n) (ht : ∀ i, i < 9 → t (p + i) = ([99, 97, 114, 100, 32, 97 + c, 32, 48 + v, 59] : List Nat).getD i 0) (he : n ≤ p + 9 ∨ t (p + 9) ≠ 32) : pStmt t n p S = .inr (p + 9, qAddCard S (zNmC c) (nI v)) := by
  have f0 : t (p) = 99 := ht 0 (by decide)
  have f1 : t (p + 1) = 97 := ht 1 (by decide)
  have f2 : t (p + 2) = 114 := ht 2 (by decide)
  have f3 : t (p + 3) = 100 := ht 3 (by decide)
  have f4 : t (p + 4) = 32 := ht 4 (by decide)
  have f5 : t (p + 5) = 97 + c := ht 5 (by decide)
  have f6 : t (p + 6) = 32 := ht 6 (by decide)
  have f7 : t (p + 7) = 48 + v := ht 7 (by decide)
  have f8 : t (p + 8) = 59 := ht 8 (by decide)
  obtain ⟨b0, k0, e0, n0⟩ := zTokW (t := t) (n := n) (p := p) (w := wCard) (by decide) (by decide) (show p + 4 ≤ n by omega) (fun i hi => by rcases (show i = 0 ∨ i = 1 ∨ i = 2 ∨ i = 3 by (have h9 : i < 4 := hi); omega) with rfl | rfl | rfl | rfl <;> assumption) (Or.inr (tLet_out (by rw [show p + List.length wCard = p + 4 from rfl, f4]; first | decide | omega)))
  have n0 : tNext t n p = tSkip t n (p + 4) := n0
  have e0 : tEndL t n p = p + 4 := e0
  rw [show tSkip t n (p + 4) = p + 5 from zsk1 (by omega) f4 (Or.inr (by rw [show p + 4 + 1 = p + 5 from rfl, f5]; first | decide | omega))] at n0
  obtain ⟨b1, k1, e1, n1⟩ := zTokW (t := t) (n := n) (p := (p + 5)) (w := [97 + c]) Nat.zero_lt_one (fun y hy => by rw [List.mem_singleton.mp hy]; exact tLet_iff.mpr (by omega)) (show (p + 5) + 1 ≤ n by omega) (fun i hi => by rcases (show i = 0 by (have h9 : i < 1 := hi); omega) with rfl; exact f5) (Or.inr (tLet_out (by rw [show (p + 5) + List.length [97 + c] = p + 6 from rfl, f6]; decide)))
  have n1 : tNext t n (p + 5) = tSkip t n (p + 6) := n1
  have e1 : tEndL t n (p + 5) = (p + 5) + 1 := e1
  rw [show tSkip t n (p + 6) = p + 7 from zsk1 (by omega) f6 (Or.inr (by rw [show p + 6 + 1 = p + 7 from rfl, f7]; first | decide | omega))] at n1
  obtain ⟨k2, e2, n2⟩ := zDg (t := t) (n := n) (p := (p + 7)) (d := v) (by omega) (by omega) f7 (Or.inr (tDig_out (by rw [show (p + 7) + 1 = p + 8 from rfl, f8]; decide)))
  have n2 : tNext t n (p + 7) = tSkip t n (p + 8) := n2
  rw [show tSkip t n (p + 8) = p + 8 from zsk0 (Or.inr (by rw [f8]; decide))] at n2
  have hs := fun S9 : zS => (zSm (S := S9) (p := p + 8) (by omega) f8 he).1
  have hb : pBody t n p S = .inr (p + 8, qAddCard S (zNmC c) (nI v)) := by
    unfold pBody; rw [if_neg (zisN (by decide) f0 (by decide)), if_pos b0]; unfold pCard; rw [if_neg (by omega), n0]; unfold pCard1; rw [zName_ok k1 e1, zNm_at e1 f5, zFind_out hN (by omega) hc, n1]; unfold pCard2; rw [pNum_ok k2 e2 (by omega) (by omega), n2]
  unfold pStmt; rw [hb]; exact hs _
theorem zst_tick {t : Nat → Nat} {n p : Nat} {S : zS} {v : Nat} (h1 : 1 ≤ v) (hv : v < 10) (hp : p + 7 ≤ n) (ht : ∀ i, i < 7 → t (p + i) = ([116, 105, 99, 107, 32, 48 + v, 59] : List Nat).getD i 0) (he : n ≤ p + 7 ∨ t (p + 7) ≠ 32) : pStmt t n p S = .inr (p + 7, qTicks S v) := by
  have f0 : t (p) = 116 := ht 0 (by decide)
  have f1 : t (p + 1) = 105 := ht 1 (by decide)
  have f2 : t (p + 2) = 99 := ht 2 (by decide)
  have f3 : t (p + 3) = 107 := ht 3 (by decide)
  have f4 : t (p + 4) = 32 := ht 4 (by decide)
  have f5 : t (p + 5) = 48 + v := ht 5 (by decide)
  have f6 : t (p + 6) = 59 := ht 6 (by decide)
  obtain ⟨b0, k0, e0, n0⟩ := zTokW (t := t) (n := n) (p := p) (w := wTick) (by decide) (by decide) (show p + 4 ≤ n by omega) (fun i hi => by rcases (show i = 0 ∨ i = 1 ∨ i = 2 ∨ i = 3 by (have h9 : i < 4 := hi); omega) with rfl | rfl | rfl | rfl <;> assumption) (Or.inr (tLet_out (by rw [show p + List.length wTick = p + 4 from rfl, f4]; first | decide | omega)))
  have n0 : tNext t n p = tSkip t n (p + 4) := n0
  have e0 : tEndL t n p = p + 4 := e0
  rw [show tSkip t n (p + 4) = p + 5 from zsk1 (by omega) f4 (Or.inr (by rw [show p + 4 + 1 = p + 5 from rfl, f5]; first | decide | omega))] at n0
  obtain ⟨k1, e1, n1⟩ := zDg (t := t) (n := n) (p := (p + 5)) (d := v) (by omega) (by omega) f5 (Or.inr (tDig_out (by rw [show (p + 5) + 1 = p + 6 from rfl, f6]; decide)))
  have n1 : tNext t n (p + 5) = tSkip t n (p + 6) := n1
  rw [show tSkip t n (p + 6) = p + 6 from zsk0 (Or.inr (by rw [f6]; decide))] at n1
  have hs := fun S9 : zS => (zSm (S := S9) (p := p + 6) (by omega) f6 he).1
  have hb : pBody t n p S = .inr (p + 6, qTicks S v) := by
    unfold pBody; rw [if_neg (zisN (by decide) f0 (by decide)), if_neg (zisN (by decide) f0 (by decide)), if_neg (zisN (by decide) f0 (by decide)), if_neg (zisN (by decide) f0 (by decide)), if_pos b0]; unfold pTick; rw [n0, pNum_ok k1 e1 h1 (by omega), n1]
  unfold pStmt; rw [hb]; exact hs _
theorem zst_wait0_in {t : Nat → Nat} {n p : Nat} {S : zS} {g : Nat} (hg : g < zng S) (h6 : zng S ≤ 6) (hy : qWhy S g 0 0 = 0) (hp : p + 11 ≤ n) (ht : ∀ i, i < 11 → t (p + i) = ([119, 97, 105, 116, 32, 48 + g, 32, 105, 110, 32, 59] : List Nat).getD i 0) (he : n ≤ p + 11 ∨ t (p + 11) ≠ 32) : pStmt t n p S = .inr (p + 11, tL S g 0 (sL S g 0 ++ [0])) := by
  have f0 : t (p) = 119 := ht 0 (by decide)
  have f1 : t (p + 1) = 97 := ht 1 (by decide)
  have f2 : t (p + 2) = 105 := ht 2 (by decide)
  have f3 : t (p + 3) = 116 := ht 3 (by decide)
  have f4 : t (p + 4) = 32 := ht 4 (by decide)
  have f5 : t (p + 5) = 48 + g := ht 5 (by decide)
  have f6 : t (p + 6) = 32 := ht 6 (by decide)
  have f7 : t (p + 7) = 105 := ht 7 (by decide)
  have f8 : t (p + 8) = 110 := ht 8 (by decide)
  have f9 : t (p + 9) = 32 := ht 9 (by decide)
  have f10 : t (p + 10) = 59 := ht 10 (by decide)
  obtain ⟨b0, k0, e0, n0⟩ := zTokW (t := t) (n := n) (p := p) (w := wWait) (by decide) (by decide) (show p + 4 ≤ n by omega) (fun i hi => by rcases (show i = 0 ∨ i = 1 ∨ i = 2 ∨ i = 3 by (have h9 : i < 4 := hi); omega) with rfl | rfl | rfl | rfl <;> assumption) (Or.inr (tLet_out (by rw [show p + List.length wWait = p + 4 from rfl, f4]; first | decide | omega)))
  have n0 : tNext t n p = tSkip t n (p + 4) := n0
  have e0 : tEndL t n p = p + 4 := e0
  rw [show tSkip t n (p + 4) = p + 5 from zsk1 (by omega) f4 (Or.inr (by rw [show p + 4 + 1 = p + 5 from rfl, f5]; first | decide | omega))] at n0
  obtain ⟨k1, e1, n1⟩ := zDg (t := t) (n := n) (p := (p + 5)) (d := g) (by omega) (by omega) f5 (Or.inr (tDig_out (by rw [show (p + 5) + 1 = p + 6 from rfl, f6]; decide)))
  have n1 : tNext t n (p + 5) = tSkip t n (p + 6) := n1
  rw [show tSkip t n (p + 6) = p + 7 from zsk1 (by omega) f6 (Or.inr (by rw [show p + 6 + 1 = p + 7 from rfl, f7]; first | decide | omega))] at n1
  obtain ⟨b2, k2, e2, n2⟩ := zTokW (t := t) (n := n) (p := (p + 7)) (w := wIn) (by decide) (by decide) (show (p + 7) + 2 ≤ n by omega) (fun i hi => by rcases (show i = 0 ∨ i = 1 by (have h9 : i < 2 := hi); omega) with rfl | rfl <;> assumption) (Or.inr (tLet_out (by rw [show (p + 7) + List.length wIn = p + 9 from rfl, f9]; first | decide | omega)))
  have n2 : tNext t n (p + 7) = tSkip t n (p + 9) := n2
  have e2 : tEndL t n (p + 7) = (p + 7) + 2 := e2
  rw [show tSkip t n (p + 9) = p + 10 from zsk1 (by omega) f9 (Or.inr (by rw [show p + 9 + 1 = p + 10 from rfl, f10]; first | decide | omega))] at n2
  have hs := fun S9 : zS => (zSm (S := S9) (p := p + 10) (by omega) f10 he).1
  have kS := (zSm (S := S) (p := p + 10) (by omega) f10 he).2
  have hb : pBody t n p S = .inr (p + 10, tL S g 0 (sL S g 0 ++ [0])) := by
    unfold pBody; rw [if_neg (zisN (by decide) f0 (by decide)), if_neg (zisN (by decide) f0 (by decide)), if_neg (zisN (by decide) f0 (by decide)), if_pos b0]; unfold pWait; rw [n0, pNum_ok k1 e1 (Nat.zero_le _) hg, n1]; unfold pWait2; dsimp only; rw [if_pos b2, n2]; unfold pWait3; rw [if_neg (by rw [kS]; decide)]; unfold pWait4; rw [if_pos hy]
  unfold pStmt; rw [hb]; exact hs _
theorem zst_wait1_in {t : Nat → Nat} {n p : Nat} {S : zS} {g c : Nat} (hg : g < zng S) (h6 : zng S ≤ 6) (hN : zNames S) (h12 : znc S ≤ 12) (hc : c < znc S) (hy : qWhy S g 0 (c + 1) = 0) (hp : p + 13 ≤ n) (ht : ∀ i, i < 13 → t (p + i) = ([119, 97, 105, 116, 32, 48 + g, 32, 105, 110, 32, 97 + c, 32, 59] : List Nat).getD i 0) (he : n ≤ p + 13 ∨ t (p + 13) ≠ 32) : pStmt t n p S = .inr (p + 13, tL S g 0 (sL S g 0 ++ [c + 1])) := by
  have f0 : t (p) = 119 := ht 0 (by decide)
  have f1 : t (p + 1) = 97 := ht 1 (by decide)
  have f2 : t (p + 2) = 105 := ht 2 (by decide)
  have f3 : t (p + 3) = 116 := ht 3 (by decide)
  have f4 : t (p + 4) = 32 := ht 4 (by decide)
  have f5 : t (p + 5) = 48 + g := ht 5 (by decide)
  have f6 : t (p + 6) = 32 := ht 6 (by decide)
  have f7 : t (p + 7) = 105 := ht 7 (by decide)
  have f8 : t (p + 8) = 110 := ht 8 (by decide)
  have f9 : t (p + 9) = 32 := ht 9 (by decide)
  have f10 : t (p + 10) = 97 + c := ht 10 (by decide)
  have f11 : t (p + 11) = 32 := ht 11 (by decide)
  have f12 : t (p + 12) = 59 := ht 12 (by decide)
  obtain ⟨b0, k0, e0, n0⟩ := zTokW (t := t) (n := n) (p := p) (w := wWait) (by decide) (by decide) (show p + 4 ≤ n by omega) (fun i hi => by rcases (show i = 0 ∨ i = 1 ∨ i = 2 ∨ i = 3 by (have h9 : i < 4 := hi); omega) with rfl | rfl | rfl | rfl <;> assumption) (Or.inr (tLet_out (by rw [show p + List.length wWait = p + 4 from rfl, f4]; first | decide | omega)))
  have n0 : tNext t n p = tSkip t n (p + 4) := n0
  have e0 : tEndL t n p = p + 4 := e0
  rw [show tSkip t n (p + 4) = p + 5 from zsk1 (by omega) f4 (Or.inr (by rw [show p + 4 + 1 = p + 5 from rfl, f5]; first | decide | omega))] at n0
  obtain ⟨k1, e1, n1⟩ := zDg (t := t) (n := n) (p := (p + 5)) (d := g) (by omega) (by omega) f5 (Or.inr (tDig_out (by rw [show (p + 5) + 1 = p + 6 from rfl, f6]; decide)))
  have n1 : tNext t n (p + 5) = tSkip t n (p + 6) := n1
  rw [show tSkip t n (p + 6) = p + 7 from zsk1 (by omega) f6 (Or.inr (by rw [show p + 6 + 1 = p + 7 from rfl, f7]; first | decide | omega))] at n1
  obtain ⟨b2, k2, e2, n2⟩ := zTokW (t := t) (n := n) (p := (p + 7)) (w := wIn) (by decide) (by decide) (show (p + 7) + 2 ≤ n by omega) (fun i hi => by rcases (show i = 0 ∨ i = 1 by (have h9 : i < 2 := hi); omega) with rfl | rfl <;> assumption) (Or.inr (tLet_out (by rw [show (p + 7) + List.length wIn = p + 9 from rfl, f9]; first | decide | omega)))
  have n2 : tNext t n (p + 7) = tSkip t n (p + 9) := n2
  have e2 : tEndL t n (p + 7) = (p + 7) + 2 := e2
  rw [show tSkip t n (p + 9) = p + 10 from zsk1 (by omega) f9 (Or.inr (by rw [show p + 9 + 1 = p + 10 from rfl, f10]; first | decide | omega))] at n2
  obtain ⟨b3, k3, e3, n3⟩ := zTokW (t := t) (n := n) (p := (p + 10)) (w := [97 + c]) Nat.zero_lt_one (fun y hy => by rw [List.mem_singleton.mp hy]; exact tLet_iff.mpr (by omega)) (show (p + 10) + 1 ≤ n by omega) (fun i hi => by rcases (show i = 0 by (have h9 : i < 1 := hi); omega) with rfl; exact f10) (Or.inr (tLet_out (by rw [show (p + 10) + List.length [97 + c] = p + 11 from rfl, f11]; decide)))
  have n3 : tNext t n (p + 10) = tSkip t n (p + 11) := n3
  have e3 : tEndL t n (p + 10) = (p + 10) + 1 := e3
  rw [show tSkip t n (p + 11) = p + 12 from zsk1 (by omega) f11 (Or.inr (by rw [show p + 11 + 1 = p + 12 from rfl, f12]; first | decide | omega))] at n3
  have hs := fun S9 : zS => (zSm (S := S9) (p := p + 12) (by omega) f12 he).1
  have hb : pBody t n p S = .inr (p + 12, tL S g 0 (sL S g 0 ++ [c + 1])) := by
    unfold pBody; rw [if_neg (zisN (by decide) f0 (by decide)), if_neg (zisN (by decide) f0 (by decide)), if_neg (zisN (by decide) f0 (by decide)), if_pos b0]; unfold pWait; rw [n0, pNum_ok k1 e1 (Nat.zero_le _) hg, n1]; unfold pWait2; dsimp only; rw [if_pos b2, n2]; unfold pWait3; rw [if_pos k3]; unfold pKnown; rw [zName_ok k3 e3, zNm_at e3 f10, zFind_in hN h12 hc, n3]; unfold pWait4; dsimp only; rw [if_pos hy]
  unfold pStmt; rw [hb]; exact hs _
theorem zst_wait0_out {t : Nat → Nat} {n p : Nat} {S : zS} {g : Nat} (hg : g < zng S) (h6 : zng S ≤ 6) (hy : qWhy S g 1 0 = 0) (hp : p + 12 ≤ n) (ht : ∀ i, i < 12 → t (p + i) = ([119, 97, 105, 116, 32, 48 + g, 32, 111, 117, 116, 32, 59] : List Nat).getD i 0) (he : n ≤ p + 12 ∨ t (p + 12) ≠ 32) : pStmt t n p S = .inr (p + 12, tL S g 1 (sL S g 1 ++ [0])) := by
  have f0 : t (p) = 119 := ht 0 (by decide)
  have f1 : t (p + 1) = 97 := ht 1 (by decide)
  have f2 : t (p + 2) = 105 := ht 2 (by decide)
  have f3 : t (p + 3) = 116 := ht 3 (by decide)
  have f4 : t (p + 4) = 32 := ht 4 (by decide)
  have f5 : t (p + 5) = 48 + g := ht 5 (by decide)
  have f6 : t (p + 6) = 32 := ht 6 (by decide)
  have f7 : t (p + 7) = 111 := ht 7 (by decide)
  have f8 : t (p + 8) = 117 := ht 8 (by decide)
  have f9 : t (p + 9) = 116 := ht 9 (by decide)
  have f10 : t (p + 10) = 32 := ht 10 (by decide)
  have f11 : t (p + 11) = 59 := ht 11 (by decide)
  obtain ⟨b0, k0, e0, n0⟩ := zTokW (t := t) (n := n) (p := p) (w := wWait) (by decide) (by decide) (show p + 4 ≤ n by omega) (fun i hi => by rcases (show i = 0 ∨ i = 1 ∨ i = 2 ∨ i = 3 by (have h9 : i < 4 := hi); omega) with rfl | rfl | rfl | rfl <;> assumption) (Or.inr (tLet_out (by rw [show p + List.length wWait = p + 4 from rfl, f4]; first | decide | omega)))
  have n0 : tNext t n p = tSkip t n (p + 4) := n0
  have e0 : tEndL t n p = p + 4 := e0
  rw [show tSkip t n (p + 4) = p + 5 from zsk1 (by omega) f4 (Or.inr (by rw [show p + 4 + 1 = p + 5 from rfl, f5]; first | decide | omega))] at n0
  obtain ⟨k1, e1, n1⟩ := zDg (t := t) (n := n) (p := (p + 5)) (d := g) (by omega) (by omega) f5 (Or.inr (tDig_out (by rw [show (p + 5) + 1 = p + 6 from rfl, f6]; decide)))
  have n1 : tNext t n (p + 5) = tSkip t n (p + 6) := n1
  rw [show tSkip t n (p + 6) = p + 7 from zsk1 (by omega) f6 (Or.inr (by rw [show p + 6 + 1 = p + 7 from rfl, f7]; first | decide | omega))] at n1
  obtain ⟨b2, k2, e2, n2⟩ := zTokW (t := t) (n := n) (p := (p + 7)) (w := wOut) (by decide) (by decide) (show (p + 7) + 3 ≤ n by omega) (fun i hi => by rcases (show i = 0 ∨ i = 1 ∨ i = 2 by (have h9 : i < 3 := hi); omega) with rfl | rfl | rfl <;> assumption) (Or.inr (tLet_out (by rw [show (p + 7) + List.length wOut = p + 10 from rfl, f10]; first | decide | omega)))
  have n2 : tNext t n (p + 7) = tSkip t n (p + 10) := n2
  have e2 : tEndL t n (p + 7) = (p + 7) + 3 := e2
  rw [show tSkip t n (p + 10) = p + 11 from zsk1 (by omega) f10 (Or.inr (by rw [show p + 10 + 1 = p + 11 from rfl, f11]; first | decide | omega))] at n2
  have hs := fun S9 : zS => (zSm (S := S9) (p := p + 11) (by omega) f11 he).1
  have kS := (zSm (S := S) (p := p + 11) (by omega) f11 he).2
  have hb : pBody t n p S = .inr (p + 11, tL S g 1 (sL S g 1 ++ [0])) := by
    unfold pBody; rw [if_neg (zisN (by decide) f0 (by decide)), if_neg (zisN (by decide) f0 (by decide)), if_neg (zisN (by decide) f0 (by decide)), if_pos b0]; unfold pWait; rw [n0, pNum_ok k1 e1 (Nat.zero_le _) hg, n1]; unfold pWait2; dsimp only; rw [if_neg (zisN (by decide) f7 (by decide)), if_pos b2, n2]; unfold pWait3; rw [if_neg (by rw [kS]; decide)]; unfold pWait4; rw [if_pos hy]
  unfold pStmt; rw [hb]; exact hs _
theorem zst_wait1_out {t : Nat → Nat} {n p : Nat} {S : zS} {g c : Nat} (hg : g < zng S) (h6 : zng S ≤ 6) (hN : zNames S) (h12 : znc S ≤ 12) (hc : c < znc S) (hy : qWhy S g 1 (c + 1) = 0) (hp : p + 14 ≤ n) (ht : ∀ i, i < 14 → t (p + i) = ([119, 97, 105, 116, 32, 48 + g, 32, 111, 117, 116, 32, 97 + c, 32, 59] : List Nat).getD i 0) (he : n ≤ p + 14 ∨ t (p + 14) ≠ 32) : pStmt t n p S = .inr (p + 14, tL S g 1 (sL S g 1 ++ [c + 1])) := by
  have f0 : t (p) = 119 := ht 0 (by decide)
  have f1 : t (p + 1) = 97 := ht 1 (by decide)
  have f2 : t (p + 2) = 105 := ht 2 (by decide)
  have f3 : t (p + 3) = 116 := ht 3 (by decide)
  have f4 : t (p + 4) = 32 := ht 4 (by decide)
  have f5 : t (p + 5) = 48 + g := ht 5 (by decide)
  have f6 : t (p + 6) = 32 := ht 6 (by decide)
  have f7 : t (p + 7) = 111 := ht 7 (by decide)
  have f8 : t (p + 8) = 117 := ht 8 (by decide)
  have f9 : t (p + 9) = 116 := ht 9 (by decide)
  have f10 : t (p + 10) = 32 := ht 10 (by decide)
  have f11 : t (p + 11) = 97 + c := ht 11 (by decide)
  have f12 : t (p + 12) = 32 := ht 12 (by decide)
  have f13 : t (p + 13) = 59 := ht 13 (by decide)
  obtain ⟨b0, k0, e0, n0⟩ := zTokW (t := t) (n := n) (p := p) (w := wWait) (by decide) (by decide) (show p + 4 ≤ n by omega) (fun i hi => by rcases (show i = 0 ∨ i = 1 ∨ i = 2 ∨ i = 3 by (have h9 : i < 4 := hi); omega) with rfl | rfl | rfl | rfl <;> assumption) (Or.inr (tLet_out (by rw [show p + List.length wWait = p + 4 from rfl, f4]; first | decide | omega)))
  have n0 : tNext t n p = tSkip t n (p + 4) := n0
  have e0 : tEndL t n p = p + 4 := e0
  rw [show tSkip t n (p + 4) = p + 5 from zsk1 (by omega) f4 (Or.inr (by rw [show p + 4 + 1 = p + 5 from rfl, f5]; first | decide | omega))] at n0
  obtain ⟨k1, e1, n1⟩ := zDg (t := t) (n := n) (p := (p + 5)) (d := g) (by omega) (by omega) f5 (Or.inr (tDig_out (by rw [show (p + 5) + 1 = p + 6 from rfl, f6]; decide)))
  have n1 : tNext t n (p + 5) = tSkip t n (p + 6) := n1
  rw [show tSkip t n (p + 6) = p + 7 from zsk1 (by omega) f6 (Or.inr (by rw [show p + 6 + 1 = p + 7 from rfl, f7]; first | decide | omega))] at n1
  obtain ⟨b2, k2, e2, n2⟩ := zTokW (t := t) (n := n) (p := (p + 7)) (w := wOut) (by decide) (by decide) (show (p + 7) + 3 ≤ n by omega) (fun i hi => by rcases (show i = 0 ∨ i = 1 ∨ i = 2 by (have h9 : i < 3 := hi); omega) with rfl | rfl | rfl <;> assumption) (Or.inr (tLet_out (by rw [show (p + 7) + List.length wOut = p + 10 from rfl, f10]; first | decide | omega)))
  have n2 : tNext t n (p + 7) = tSkip t n (p + 10) := n2
  have e2 : tEndL t n (p + 7) = (p + 7) + 3 := e2
  rw [show tSkip t n (p + 10) = p + 11 from zsk1 (by omega) f10 (Or.inr (by rw [show p + 10 + 1 = p + 11 from rfl, f11]; first | decide | omega))] at n2
  obtain ⟨b3, k3, e3, n3⟩ := zTokW (t := t) (n := n) (p := (p + 11)) (w := [97 + c]) Nat.zero_lt_one (fun y hy => by rw [List.mem_singleton.mp hy]; exact tLet_iff.mpr (by omega)) (show (p + 11) + 1 ≤ n by omega) (fun i hi => by rcases (show i = 0 by (have h9 : i < 1 := hi); omega) with rfl; exact f11) (Or.inr (tLet_out (by rw [show (p + 11) + List.length [97 + c] = p + 12 from rfl, f12]; decide)))
  have n3 : tNext t n (p + 11) = tSkip t n (p + 12) := n3
  have e3 : tEndL t n (p + 11) = (p + 11) + 1 := e3
  rw [show tSkip t n (p + 12) = p + 13 from zsk1 (by omega) f12 (Or.inr (by rw [show p + 12 + 1 = p + 13 from rfl, f13]; first | decide | omega))] at n3
  have hs := fun S9 : zS => (zSm (S := S9) (p := p + 13) (by omega) f13 he).1
  have hb : pBody t n p S = .inr (p + 13, tL S g 1 (sL S g 1 ++ [c + 1])) := by
    unfold pBody; rw [if_neg (zisN (by decide) f0 (by decide)), if_neg (zisN (by decide) f0 (by decide)), if_neg (zisN (by decide) f0 (by decide)), if_pos b0]; unfold pWait; rw [n0, pNum_ok k1 e1 (Nat.zero_le _) hg, n1]; unfold pWait2; dsimp only; rw [if_neg (zisN (by decide) f7 (by decide)), if_pos b2, n2]; unfold pWait3; rw [if_pos k3]; unfold pKnown; rw [zName_ok k3 e3, zNm_at e3 f11, zFind_in hN h12 hc, n3]; unfold pWait4; dsimp only; rw [if_pos hy]
  unfold pStmt; rw [hb]; exact hs _
theorem zst_row {t : Nat → Nat} {n p : Nat} {S : zS} {h v : Nat} (h1 : 1 ≤ h) (h2 : h < 10) (q1 : 1 ≤ v) (q2 : v < 5) (hp : p + 8 ≤ n) (ht : ∀ i, i < 8 → t (p + i) = ([114, 111, 119, 32, 48 + h, 32, 48 + v, 59] : List Nat).getD i 0) (he : n ≤ p + 8 ∨ t (p + 8) ≠ 32) : pHead t n p S = .inr (p + 8, tX (tX S 0 (nI h)) 1 (nI v)) := by
  have f0 : t (p) = 114 := ht 0 (by decide)
  have f1 : t (p + 1) = 111 := ht 1 (by decide)
  have f2 : t (p + 2) = 119 := ht 2 (by decide)
  have f3 : t (p + 3) = 32 := ht 3 (by decide)
  have f4 : t (p + 4) = 48 + h := ht 4 (by decide)
  have f5 : t (p + 5) = 32 := ht 5 (by decide)
  have f6 : t (p + 6) = 48 + v := ht 6 (by decide)
  have f7 : t (p + 7) = 59 := ht 7 (by decide)
  obtain ⟨b0, k0, e0, n0⟩ := zTokW (t := t) (n := n) (p := p) (w := wRow) (by decide) (by decide) (show p + 3 ≤ n by omega) (fun i hi => by rcases (show i = 0 ∨ i = 1 ∨ i = 2 by (have h9 : i < 3 := hi); omega) with rfl | rfl | rfl <;> assumption) (Or.inr (tLet_out (by rw [show p + List.length wRow = p + 3 from rfl, f3]; first | decide | omega)))
  have n0 : tNext t n p = tSkip t n (p + 3) := n0
  have e0 : tEndL t n p = p + 3 := e0
  rw [show tSkip t n (p + 3) = p + 4 from zsk1 (by omega) f3 (Or.inr (by rw [show p + 3 + 1 = p + 4 from rfl, f4]; first | decide | omega))] at n0
  obtain ⟨k1, e1, n1⟩ := zDg (t := t) (n := n) (p := (p + 4)) (d := h) (by omega) (by omega) f4 (Or.inr (tDig_out (by rw [show (p + 4) + 1 = p + 5 from rfl, f5]; decide)))
  have n1 : tNext t n (p + 4) = tSkip t n (p + 5) := n1
  rw [show tSkip t n (p + 5) = p + 6 from zsk1 (by omega) f5 (Or.inr (by rw [show p + 5 + 1 = p + 6 from rfl, f6]; first | decide | omega))] at n1
  obtain ⟨k2, e2, n2⟩ := zDg (t := t) (n := n) (p := (p + 6)) (d := v) (by omega) (by omega) f6 (Or.inr (tDig_out (by rw [show (p + 6) + 1 = p + 7 from rfl, f7]; decide)))
  have n2 : tNext t n (p + 6) = tSkip t n (p + 7) := n2
  rw [show tSkip t n (p + 7) = p + 7 from zsk0 (Or.inr (by rw [f7]; decide))] at n2
  have hs := fun S9 : zS => (zSm (S := S9) (p := p + 7) (by omega) f7 he).1
  unfold pHead; rw [if_pos b0, n0, pNum_ok k1 e1 h1 (by omega), n1]; unfold pHead2; dsimp only; rw [pNum_ok k2 e2 q1 q2, n2]; exact hs _
theorem zRd_head {h f : Nat} (h1 : 1 ≤ h) (h2 : h < 10) (f1 : 1 ≤ f) (f2 : f < 5) : zRd [114, 111, 119, 32, 48 + h, 32, 48 + f, 59] (tX (tX zBlank 0 (nI h)) 1 (nI f)) := by
  intro t n hn ht he
  have hn8 : 8 ≤ n := hn
  have e0 : t 0 = 114 := ht 0 (Nat.zero_lt_succ _)
  unfold pLoad
  rw [zsk0 (Or.inr (by rw [e0]; decide)), zst_row (p := 0) h1 h2 f1 f2 (by omega) (fun i hi => by rw [Nat.zero_add]; exact ht i hi) (by rcases he with he | he; exact Or.inl (by rw [he]; exact Nat.le_refl _); exact Or.inr he)]
  rfl
