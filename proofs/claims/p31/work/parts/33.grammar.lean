/-! ===== what a setup text says ===== -/
abbrev zRs : Type := (Int32 × Nat) ⊕ (Nat × zS)
def wRow : List Nat := [114, 111, 119]
def wGate : List Nat := [103, 97, 116, 101]
def wBoth : List Nat := [98, 111, 116, 104]
def wOut : List Nat := [111, 117, 116]
def wIn : List Nat := [105, 110]
def wCard : List Nat := [99, 97, 114, 100]
def wList : List Nat := [108, 105, 115, 116]
def wWait : List Nat := [119, 97, 105, 116]
def wTick : List Nat := [116, 105, 99, 107]
def wKey : List Nat := [107, 101, 121]
/-- the word at p, as a truth value -/
def tIsB (t : Nat → Nat) (n p : Nat) (w : List Nat) : Bool := decide (p < n ∧ tLet (t p) = true ∧ tEndL t n p - p = w.length ∧ ∀ i, i < w.length → t (p + i) = w.getD i 0)
theorem tIsB_iff {t : Nat → Nat} {n p : Nat} {w : List Nat} : tIsB t n p w = true ↔ tIs t n p w := decide_eq_true_iff
def pNum (t : Nat → Nat) (n p lo hi : Nat) : (Int32 × Nat) ⊕ Nat :=
  if tKind t n p = 1 then (if lo ≤ tVal t p (tEndD t n p - p) ∧ tVal t p (tEndD t n p - p) < hi then .inr (tVal t p (tEndD t n p - p)) else .inl (-3, p)) else .inl (-2, p)
def pSemi (t : Nat → Nat) (n p : Nat) (S : zS) : zRs := if tKind t n p = 3 then .inr (tNext t n p, S) else .inl (-2, p)
def pHead2 (t : Nat → Nat) (n p h : Nat) (S : zS) : zRs :=
  match pNum t n p 1 5 with
  | .inl e => .inl e
  | .inr f => pSemi t n (tNext t n p) (tX (tX S 0 (nI h)) 1 (nI f))
def pHead (t : Nat → Nat) (n p : Nat) (S : zS) : zRs :=
  if tIsB t n p wRow = true then
    match pNum t n (tNext t n p) 1 10 with
    | .inl e => .inl e
    | .inr h => pHead2 t n (tNext t n (tNext t n p)) h S
  else .inl (-2, p)
def pGate (t : Nat → Nat) (n p : Nat) (S : zS) : zRs :=
  if zng S = 6 then .inl (-5, p)
  else if tIsB t n (tNext t n p) wBoth = true then .inr (tNext t n (tNext t n p), qAddGate S 2)
  else if tIsB t n (tNext t n p) wOut = true then .inr (tNext t n (tNext t n p), qAddGate S 1)
  else if tIsB t n (tNext t n p) wIn = true then .inr (tNext t n (tNext t n p), qAddGate S 0)
  else .inl (-2, tNext t n p)
/-- the letters at p, up to six -/
def tNmF (t : Nat → Nat) (n p : Nat) : Nat → Int32 := fun k => if k < tEndL t n p - p then nI (t (p + k)) else 0
def zSame (S : zS) (nm : Nat → Int32) (c : Nat) : Bool := (List.range 6).all (fun k => decide (sM S c k = nm k))
theorem zSame_iff {S : zS} {nm : Nat → Int32} {c : Nat} : zSame S nm c = true ↔ ∀ k, k < 6 → sM S c k = nm k := by
  unfold zSame
  rw [List.all_eq_true]
  constructor
  · exact fun h k hk => of_decide_eq_true (h k (List.mem_range.mpr hk))
  · exact fun h k hk => decide_eq_true (h k (List.mem_range.mp hk))
def pFind (S : zS) (nm : Nat → Int32) : Option Nat := (List.range (znc S)).find? (zSame S nm)
def pName (t : Nat → Nat) (n p : Nat) : Option (Int32 × Nat) := if tKind t n p = 2 then (if tEndL t n p - p ≤ 6 then none else some (-3, p)) else some (-2, p)
def pCard2 (t : Nat → Nat) (n p : Nat) (nm : Nat → Int32) (S : zS) : zRs :=
  match pNum t n p 0 100 with
  | .inl e => .inl e
  | .inr v => .inr (tNext t n p, qAddCard S nm (nI v))
def pCard1 (t : Nat → Nat) (n p : Nat) (S : zS) : zRs :=
  match pName t n p with
  | some e => .inl e
  | none =>
    match pFind S (tNmF t n p) with
    | some _ => .inl (-4, p)
    | none => pCard2 t n (tNext t n p) (tNmF t n p) S
def pCard (t : Nat → Nat) (n p : Nat) (S : zS) : zRs := if znc S = 12 then .inl (-5, p) else pCard1 t n (tNext t n p) S
def pKnown (t : Nat → Nat) (n p : Nat) (S : zS) : (Int32 × Nat) ⊕ Nat :=
  match pName t n p with
  | some e => .inl e
  | none =>
    match pFind S (tNmF t n p) with
    | some c => .inr c
    | none => .inl (-4, p)
def pListed (t : Nat → Nat) (n p : Nat) (S : zS) : zRs :=
  match pKnown t n p S with
  | .inl e => .inl e
  | .inr c => .inr (tNext t n p, tC S c 2 1)
def pMore (t : Nat → Nat) (n : Nat) : Nat → Nat → zS → zRs
  | 0, p, S => .inr (p, S)
  | k + 1, p, S =>
    if tKind t n p = 2 then
      match pListed t n p S with
      | .inl e => .inl e
      | .inr q => pMore t n k q.1 q.2
    else .inr (p, S)
def pList (t : Nat → Nat) (n p : Nat) (S : zS) : zRs :=
  match pListed t n (tNext t n p) S with
  | .inl e => .inl e
  | .inr q => pMore t n (n - q.1) q.1 q.2
def pWait4 (S : zS) (g s w p2 p4 : Nat) : zRs := if qWhy S g s w = 0 then .inr (p4, tL S g s (sL S g s ++ [w])) else .inl (-6, p2)
def pWait3 (t : Nat → Nat) (n p2 p3 g s : Nat) (S : zS) : zRs :=
  if tKind t n p3 = 2 then
    match pKnown t n p3 S with
    | .inl e => .inl e
    | .inr c => pWait4 S g s (c + 1) p2 (tNext t n p3)
  else pWait4 S g s 0 p2 p3
def pWait2 (t : Nat → Nat) (n p2 g : Nat) (S : zS) : zRs :=
  if tIsB t n p2 wIn = true then pWait3 t n p2 (tNext t n p2) g 0 S
  else if tIsB t n p2 wOut = true then pWait3 t n p2 (tNext t n p2) g 1 S
  else .inl (-2, p2)
def pWait (t : Nat → Nat) (n p : Nat) (S : zS) : zRs :=
  match pNum t n (tNext t n p) 0 (zng S) with
  | .inl e => .inl e
  | .inr g => pWait2 t n (tNext t n (tNext t n p)) g S
def pTick (t : Nat → Nat) (n p : Nat) (S : zS) : zRs :=
  match pNum t n (tNext t n p) 1 100 with
  | .inl e => .inl e
  | .inr v => .inr (tNext t n (tNext t n p), qTicks S v)
def pKey (t : Nat → Nat) (n p : Nat) (S : zS) : zRs :=
  match pNum t n (tNext t n p) 0 3 with
  | .inl e => .inl e
  | .inr v => .inr (tNext t n (tNext t n p), qKey S v)
def pBody (t : Nat → Nat) (n p : Nat) (S : zS) : zRs :=
  if tIsB t n p wGate = true then pGate t n p S
  else if tIsB t n p wCard = true then pCard t n p S
  else if tIsB t n p wList = true then pList t n p S
  else if tIsB t n p wWait = true then pWait t n p S
  else if tIsB t n p wTick = true then pTick t n p S
  else if tIsB t n p wKey = true then pKey t n p S
  else .inl (-2, p)
def pStmt (t : Nat → Nat) (n p : Nat) (S : zS) : zRs :=
  match pBody t n p S with
  | .inl e => .inl e
  | .inr q => pSemi t n q.1 q.2
def pAll (t : Nat → Nat) (n : Nat) : Nat → Nat → zS → zRs
  | 0, p, S => .inr (p, S)
  | k + 1, p, S =>
    if p < n then
      match pStmt t n p S with
      | .inl e => .inl e
      | .inr q => pAll t n k q.1 q.2
    else .inr (p, S)
/-- a row that nothing was told of -/
def zBlank : zS := (fun i => if i = 0 then 3 else if i = 1 then 2 else 0, fun _ _ => 0, fun _ _ => [], fun _ _ => 0, fun _ _ => 0)
def pLoad (t : Nat → Nat) (n : Nat) : zRs :=
  match pHead t n (tSkip t n 0) zBlank with
  | .inl e => .inl e
  | .inr q => pAll t n (n - q.1) q.1 q.2
theorem zWf_blank : zWf zBlank := by
  refine zWf_mk ⟨⟨by decide, rfl⟩, ⟨by decide, rfl⟩, fun _ _ => ⟨fun _ => rfl, fun _ => rfl⟩, fun g s y h => (by cases h), fun _ _ => Nat.zero_le _, ⟨⟨3, by decide, by decide, rfl⟩, ⟨2, by decide, by decide, rfl⟩⟩, ⟨Or.inl rfl, Or.inl rfl, Or.inl rfl⟩, fun c g s p g' s' p' h => (by have := h.2.2; cases this), fun _ => ⟨Or.inl rfl, Or.inl rfl⟩, fun _ _ => ⟨fun _ => rfl, fun _ => rfl⟩, fun c h => ?_⟩ (fun g => ⟨Or.inl rfl, Or.inl rfl, Or.inl ⟨rfl, rfl, rfl⟩⟩) (fun _ _ => rfl)
  exact absurd h (Nat.not_lt_zero c)
/-- names: letters against the number that the class keeps -/
theorem znm_step {f : Nat → Int32} {k : Nat} : znm f (k + 1) = if f k = 0 then znm f k else 27 * znm f k + (f k - 97 + 1) := rfl
theorem znm_F {t : Nat → Nat} {p L : Nat} (h : ∀ i, i < L → tLet (t (p + i)) = true) : ∀ k, znm (fun k => if k < L then nI (t (p + k)) else 0) k = tNm t p (min k L)
  | 0 => by rw [Nat.zero_min]; rfl
  | k + 1 => by
    rw [znm_step, znm_F h k]
    by_cases hk : k < L
    · have h1 := tLet_iff.mp (h k hk)
      have h0 : ¬ nI (t (p + k)) = 0 := fun z => by
        have := (zn_i0 (a := t (p + k)) (by omega)).1.mp z
        omega
      rw [if_pos hk, if_neg h0, show min (k + 1) L = k + 1 by omega, show min k L = k by omega, tNm]
    · rw [if_neg hk, if_pos rfl, show min (k + 1) L = L by omega, show min k L = L by omega]
/-- the names of a row that is well-formed, as numbers with no end -/
def zN1 (f : Nat → Int32) : Nat → Nat := fun k => (f k).toNatClampNeg
theorem zname_t {S : zS} (hW : zWf S) {c : Nat} (hc : c < znc S) : ∃ L, 1 ≤ L ∧ L ≤ 6 ∧ (∀ i, i < L → tLet (zN1 (sM S c) i) = true) ∧ (sM S c = fun k => if k < L then nI (zN1 (sM S c) (0 + k)) else 0) := by
  obtain ⟨L, h1, h2, h3⟩ := hW.names c hc
  have key : ∀ k, k < L → nI (zN1 (sM S c) k) = sM S c k ∧ 97 ≤ zN1 (sM S c) k ∧ zN1 (sM S c) k ≤ 122 := fun k hk => by
    obtain ⟨g1, g2⟩ := (h3 k).1 hk
    rw [Int32.le_iff_toInt_le] at g1 g2
    have e1 : (97 : Int32).toInt = 97 := by decide
    have e2 : (122 : Int32).toInt = 122 := by decide
    rw [e1] at g1
    rw [e2] at g2
    have e3 : ((zN1 (sM S c) k : Nat) : Int) = (sM S c k).toInt := by
      show (((sM S c k).toInt.toNat : Nat) : Int) = _
      omega
    refine ⟨?_, by omega, by omega⟩
    apply Int32.toInt_inj.mp
    rw [nI_toInt (by omega)]; exact e3
  refine ⟨L, h1, h2, fun i hi => tLet_iff.mpr (key i hi).2, ?_⟩
  funext k
  split
  · rw [Nat.zero_add]; exact (key k (by assumption)).1.symm
  · exact (h3 k).2 (by omega)
theorem znm_iff {S : zS} (hW : zWf S) {c : Nat} (hc : c < znc S) {t : Nat → Nat} {p L : Nat} (hL1 : 1 ≤ L) (hL : L ≤ 6) (h : ∀ i, i < L → tLet (t (p + i)) = true) : znm (sM S c) 6 = tNm t p L ↔ ∀ k, k < 6 → sM S c k = if k < L then nI (t (p + k)) else 0 := by
  obtain ⟨M, m1, m2, m3, m4⟩ := zname_t hW hc
  have e1 : znm (sM S c) 6 = tNm (zN1 (sM S c)) 0 M := by
    have := znm_F (t := zN1 (sM S c)) (p := 0) (L := M) (fun i hi => by rw [Nat.zero_add]; exact m3 i hi) 6
    rw [← m4] at this
    rw [this, show min 6 M = M by omega]
  have m3' : ∀ i, i < M → tLet (zN1 (sM S c) (0 + i)) = true := fun i hi => by rw [Nat.zero_add]; exact m3 i hi
  rw [e1]
  constructor
  · intro e k hk
    have hlen : M = L := by
      rw [tNm_eq _ m3', tNm_eq _ h] at e
      have a1 := tNam_lt M m3'
      have a2 := tNam_lt L h
      have b1 : 27 ^ M ≤ 27 ^ 6 := Nat.pow_le_pow_right (by decide) m2
      have b2 : 27 ^ L ≤ 27 ^ 6 := Nat.pow_le_pow_right (by decide) hL
      have b3 : 27 ^ 6 = 387420489 := by decide
      have e2 := (nI_eq (by omega) (by omega)).mp e
      have low : ∀ (u : Nat → Nat) (q K : Nat), (∀ i, i < K → tLet (u (q + i)) = true) → 1 ≤ K → 27 ^ (K - 1) ≤ tNam u q K := by
        intro u q K hu hK
        induction K with
        | zero => omega
        | succ K ih =>
          have hh := tLet_iff.mp (hu K (by omega))
          rw [tNam, Nat.add_sub_cancel]
          rcases Nat.eq_zero_or_pos K with z | z
          · subst z
            show 1 ≤ _
            omega
          · have := ih (fun i hi => hu i (by omega)) z
            have e9 : 27 ^ K = 27 * 27 ^ (K - 1) := by
              obtain ⟨j, rfl⟩ : ∃ j, K = j + 1 := ⟨K - 1, by omega⟩
              rw [Nat.pow_succ, Nat.add_sub_cancel, Nat.mul_comm]
            omega
      have c1 := low _ 0 M m3' m1
      have c2 := low t p L h hL1
      rcases Nat.lt_trichotomy M L with q | q | q
      · have : 27 ^ M ≤ 27 ^ (L - 1) := Nat.pow_le_pow_right (by decide) (by omega)
        omega
      · exact q
      · have : 27 ^ L ≤ 27 ^ (M - 1) := Nat.pow_le_pow_right (by decide) (by omega)
        omega
    subst hlen
    have := (tNm_iff m2 m3' h).mp e
    rw [m4]
    show (if k < M then _ else _) = _
    split
    · rw [this k (by assumption)]
    · rfl
  · intro e
    have hlen : M = L := by
      rcases Nat.lt_trichotomy M L with q | q | q
      · have := e M (by omega)
        rw [m4, if_pos q] at this
        have h9 : (if M < M then nI (zN1 (sM S c) (0 + M)) else 0) = nI (t (p + M)) := this
        rw [if_neg (Nat.lt_irrefl _)] at h9
        have := tLet_iff.mp (h M q)
        have := (zn_i0 (a := t (p + M)) (by omega)).1.mp h9.symm
        omega
      · exact q
      · have := e L (by omega)
        rw [if_neg (Nat.lt_irrefl _), m4] at this
        have h9 : (if L < M then nI (zN1 (sM S c) (0 + L)) else 0) = 0 := this
        rw [if_pos q] at h9
        have h8 := tLet_iff.mp (m3' L q)
        have := (zn_i0 (a := zN1 (sM S c) (0 + L)) (by omega)).1.mp h9
        omega
    subst hlen
    refine (tNm_iff m2 m3' h).mpr (fun k hk => ?_)
    have := e k (by omega)
    rw [if_pos hk, m4] at this
    have h9 : (if k < M then nI (zN1 (sM S c) (0 + k)) else 0) = nI (t (p + k)) := this
    rw [if_pos hk] at h9
    have h8 := tLet_iff.mp (m3' k hk)
    have h7 := tLet_iff.mp (h k hk)
    exact (nI_eq (by omega) (by omega)).mp h9
theorem pFind_some {S : zS} {nm : Nat → Int32} {c : Nat} (h : pFind S nm = some c) : c < znc S ∧ ∀ k, k < 6 → sM S c k = nm k :=
  ⟨List.mem_range.mp (List.mem_of_find?_eq_some h), zSame_iff.mp (List.find?_some h)⟩
theorem pFind_none {S : zS} {nm : Nat → Int32} (h : pFind S nm = none) {c : Nat} (hc : c < znc S) : ¬ ∀ k, k < 6 → sM S c k = nm k := fun z =>
  List.find?_eq_none.mp h c (List.mem_range.mpr hc) (zSame_iff.mpr z)
theorem pFind_is {S : zS} {nm : Nat → Int32} {c : Nat} (hc : c < znc S) (h : ∀ k, k < 6 → sM S c k = nm k) (hf : ∀ i, i < c → ¬ ∀ k, k < 6 → sM S i k = nm k) : pFind S nm = some c := by
  cases e : pFind S nm with
  | none => exact absurd h (pFind_none e hc)
  | some d =>
    obtain ⟨d1, d2⟩ := pFind_some e
    have h1 : ¬ d < c := fun z => hf d z d2
    rcases Nat.lt_or_ge c d with q | q
    · exfalso
      unfold pFind at e
      rw [List.find?_range_eq_some] at e
      have := e.2.2 c q
      rw [zSame_iff.mpr h] at this
      cases this
    · congr 1; omega
