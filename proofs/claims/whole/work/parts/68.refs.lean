/-! ===== the reference's methods as the law calls them ===== -/
theorem zRf.re {F I : zI} {y f : Nat} {t : Nat → Nat} {er : Int32} {S : zS} {U : List zS} (h : zRf F I y t f er S U) : zRf I I y t f er S U := ⟨h.1, h.2.1, h.2.2.1, h.2.2.2.1, zFrr.rf, h.2.2.2.2.2⟩
theorem zq_X8_load {l : Launch} {D : va_G} {b0 : Nat} {tA : Nat → ClassId} {sa sv : Nat → Nat} {K : Nat → Option Nat} {I : zI} {Qp : zI → Option AV → Prop} {Xp : String → zI → Prop} {F9 : zI} {y f : Nat} {t : Nat → Nat} {er : Int32} {S : zS} {U : List zS} {v : Int32}
    (hC : zRf F9 I y t f er S U) (k0 : (rLoad t f v).1 = 0 → ∀ J : zI, zRf F9 J y t (fLoad f v) (eLoad t f v er) (sLoad t f v S) (uLoad t f v S U) → J y 0 = 0 → Qp J (some (vi (rLoad t f v).2))) (kx1 : (rLoad t f v).1 = 1 → ∀ (J : zI) (v9 : Int32), zRf F9 J y t (fLoad f v) (eLoad t f v er) (sLoad t f v S) (uLoad t f v S U) → J y 0 = 1 → Qp J (some (vi v9))) :
    zC l D b0 tA sa sv K yX8_load (.code yX8_load cX8_load 3 (some .int)) zrm_X8_load [vr (y) 8, vi (v)] I Qp Xp := by
  unfold rLoad fLoad eLoad sLoad uLoad at k0 kx1
  cases hv : vIdx v (f + 1) with
  | none => rw [hv] at kx1; exact zx_X8_load hC hv (kx1 rfl)
  | some n =>
    obtain ⟨hn, rfl⟩ := vIdx_some hv
    rw [hv] at k0
    refine zo_X8_load hC (by omega) (fun J p2 S3 hp hJ => ?_) (fun J e hp hJ => ?_)
    · dsimp only at k0
      rw [hp] at k0; exact k0 rfl J hJ
    · dsimp only at k0
      rw [hp] at k0; exact k0 rfl J hJ
def rApp (f : Nat) : Int32 := if f ≤ 480 then nI (f + 20) else -1
def fApp (f : Nat) : Nat := if f ≤ 480 then f + 20 else f
def tApp2 (t : Nat → Nat) (f : Nat) (w1 w2 w3 w4 w5 : Int32) : Nat → Nat := if f ≤ 480 then tApp t f w1 w2 w3 w4 w5 else t
theorem zM_state {l : Launch} {D : va_G} {b0 : Nat} {tA : Nat → ClassId} {sa sv : Nat → Nat} {K : Nat → Option Nat} {I : zI} {Qp : zI → Option AV → Prop} {x y out f f2 : Nat} {t t2 : Nat → Nat} {er er2 : Int32} {S S2 : zS} {U U2 : List zS} {v : Int32}
    (hC : zCl I I x t2 f2 er2 S2 U2) (hR : zRf I I y t f er S U) (h1 : x + 501 ≤ y) (h2 : y + 14 ≤ out) (k : ∀ (J : zI) (v9 : Int32), zCl J J x t2 f2 er2 S2 U2 → zRf J J y t f er S U → J out 0 = I out 0 → J y 0 = nI (rState S v).1 → ((rState S v).1 = 0 → v9 = (rState S v).2) → Qp J (some (vi v9))) :
    zC l D b0 tA sa sv K yX8_state (.code yX8_state cX8_state 2 (some .int)) zrm_X8_state [vr y 8, vi v] I Qp (fun _ _ => False) := by
  refine zq_X8_state hR (fun h J hJ e => ?_) (fun h J v9 hJ e => ?_)
  · exact k J _ (hC.on (fun q a b => hJ.2.2.2.2.1 q (by omega))) hJ.re (congrFun (hJ.2.2.2.2.1 out (by omega)) 0) (by rw [e, h]; rfl) (fun _ => rfl)
  · have hn : ¬ (rState S v).1 = 0 := by rw [h]; decide
    exact k J v9 (hC.on (fun q a b => hJ.2.2.2.2.1 q (by omega))) hJ.re (congrFun (hJ.2.2.2.2.1 out (by omega)) 0) (by rw [e, h]; rfl) (fun q => absurd q hn)
theorem zM_find {l : Launch} {D : va_G} {b0 : Nat} {tA : Nat → ClassId} {sa sv : Nat → Nat} {K : Nat → Option Nat} {I : zI} {Qp : zI → Option AV → Prop} {x y out f f2 : Nat} {t t2 : Nat → Nat} {er er2 : Int32} {S S2 : zS} {U U2 : List zS} {v : Int32}
    (hC : zCl I I x t2 f2 er2 S2 U2) (hR : zRf I I y t f er S U) (h1 : x + 501 ≤ y) (h2 : y + 14 ≤ out) (k : ∀ (J : zI) (v9 : Int32), zCl J J x t2 f2 er2 S2 U2 → zRf J J y t f er S U → J out 0 = I out 0 → J y 0 = nI (rFind S t f v).1 → ((rFind S t f v).1 = 0 → v9 = (rFind S t f v).2) → Qp J (some (vi v9))) :
    zC l D b0 tA sa sv K yX8_find (.code yX8_find cX8_find 3 (some .int)) zrm_X8_find [vr y 8, vi v] I Qp (fun _ _ => False) := by
  refine zq_X8_find hR (fun h J hJ e => ?_) (fun h J v9 hJ e => ?_)
  · exact k J _ (hC.on (fun q a b => hJ.2.2.2.2.1 q (by omega))) hJ.re (congrFun (hJ.2.2.2.2.1 out (by omega)) 0) (by rw [e, h]; rfl) (fun _ => rfl)
  · have hn : ¬ (rFind S t f v).1 = 0 := by rw [h]; decide
    exact k J v9 (hC.on (fun q a b => hJ.2.2.2.2.1 q (by omega))) hJ.re (congrFun (hJ.2.2.2.2.1 out (by omega)) 0) (by rw [e, h]; rfl) (fun q => absurd q hn)
theorem zM_gate {l : Launch} {D : va_G} {b0 : Nat} {tA : Nat → ClassId} {sa sv : Nat → Nat} {K : Nat → Option Nat} {I : zI} {Qp : zI → Option AV → Prop} {x y out f f2 : Nat} {t t2 : Nat → Nat} {er er2 : Int32} {S S2 : zS} {U U2 : List zS} {u v : Int32}
    (hC : zCl I I x t2 f2 er2 S2 U2) (hR : zRf I I y t f er S U) (h1 : x + 501 ≤ y) (h2 : y + 14 ≤ out) (k : ∀ (J : zI) (v9 : Int32), zCl J J x t2 f2 er2 S2 U2 → zRf J J y t f er S U → J out 0 = I out 0 → J y 0 = nI (rGate S u v).1 → ((rGate S u v).1 = 0 → v9 = (rGate S u v).2) → Qp J (some (vi v9))) :
    zC l D b0 tA sa sv K yX8_gate (.code yX8_gate cX8_gate 3 (some .int)) zrm_X8_gate [vr y 8, vi u, vi v] I Qp (fun _ _ => False) := by
  refine zq_X8_gate hR (fun h J hJ e => ?_) (fun h J v9 hJ e => ?_) (fun h J v9 hJ e => ?_)
  · exact k J _ (hC.on (fun q a b => hJ.2.2.2.2.1 q (by omega))) hJ.re (congrFun (hJ.2.2.2.2.1 out (by omega)) 0) (by rw [e, h]; rfl) (fun _ => rfl)
  · have hn : ¬ (rGate S u v).1 = 0 := by rw [h]; decide
    exact k J v9 (hC.on (fun q a b => hJ.2.2.2.2.1 q (by omega))) hJ.re (congrFun (hJ.2.2.2.2.1 out (by omega)) 0) (by rw [e, h]; rfl) (fun q => absurd q hn)
  · have hn : ¬ (rGate S u v).1 = 0 := by rw [h]; decide
    exact k J v9 (hC.on (fun q a b => hJ.2.2.2.2.1 q (by omega))) hJ.re (congrFun (hJ.2.2.2.2.1 out (by omega)) 0) (by rw [e, h]; rfl) (fun q => absurd q hn)
theorem zM_card {l : Launch} {D : va_G} {b0 : Nat} {tA : Nat → ClassId} {sa sv : Nat → Nat} {K : Nat → Option Nat} {I : zI} {Qp : zI → Option AV → Prop} {x y out f f2 : Nat} {t t2 : Nat → Nat} {er er2 : Int32} {S S2 : zS} {U U2 : List zS} {u v : Int32}
    (hC : zCl I I x t2 f2 er2 S2 U2) (hR : zRf I I y t f er S U) (h1 : x + 501 ≤ y) (h2 : y + 14 ≤ out) (k : ∀ (J : zI) (v9 : Int32), zCl J J x t2 f2 er2 S2 U2 → zRf J J y t f er S U → J out 0 = I out 0 → J y 0 = nI (rCard S u v).1 → ((rCard S u v).1 = 0 → v9 = (rCard S u v).2) → Qp J (some (vi v9))) :
    zC l D b0 tA sa sv K yX8_card (.code yX8_card cX8_card 3 (some .int)) zrm_X8_card [vr y 8, vi u, vi v] I Qp (fun _ _ => False) := by
  refine zq_X8_card hR (fun h J hJ e => ?_) (fun h J v9 hJ e => ?_) (fun h J v9 hJ e => ?_)
  · exact k J _ (hC.on (fun q a b => hJ.2.2.2.2.1 q (by omega))) hJ.re (congrFun (hJ.2.2.2.2.1 out (by omega)) 0) (by rw [e, h]; rfl) (fun _ => rfl)
  · have hn : ¬ (rCard S u v).1 = 0 := by rw [h]; decide
    exact k J v9 (hC.on (fun q a b => hJ.2.2.2.2.1 q (by omega))) hJ.re (congrFun (hJ.2.2.2.2.1 out (by omega)) 0) (by rw [e, h]; rfl) (fun q => absurd q hn)
  · have hn : ¬ (rCard S u v).1 = 0 := by rw [h]; decide
    exact k J v9 (hC.on (fun q a b => hJ.2.2.2.2.1 q (by omega))) hJ.re (congrFun (hJ.2.2.2.2.1 out (by omega)) 0) (by rw [e, h]; rfl) (fun q => absurd q hn)
theorem zM_inLine {l : Launch} {D : va_G} {b0 : Nat} {tA : Nat → ClassId} {sa sv : Nat → Nat} {K : Nat → Option Nat} {I : zI} {Qp : zI → Option AV → Prop} {x y out f f2 : Nat} {t t2 : Nat → Nat} {er er2 : Int32} {S S2 : zS} {U U2 : List zS} {u v v3 : Int32}
    (hC : zCl I I x t2 f2 er2 S2 U2) (hR : zRf I I y t f er S U) (h1 : x + 501 ≤ y) (h2 : y + 14 ≤ out) (k : ∀ (J : zI) (v9 : Int32), zCl J J x t2 f2 er2 S2 U2 → zRf J J y t f er S U → J out 0 = I out 0 → J y 0 = nI (rInLine S u v v3).1 → ((rInLine S u v v3).1 = 0 → v9 = (rInLine S u v v3).2) → Qp J (some (vi v9))) :
    zC l D b0 tA sa sv K yX8_inLine (.code yX8_inLine cX8_inLine 4 (some .int)) zrm_X8_inLine [vr y 8, vi u, vi v, vi v3] I Qp (fun _ _ => False) := by
  refine zq_X8_inLine hR (fun h J hJ e => ?_) (fun h J v9 hJ e => ?_) (fun h J v9 hJ e => ?_) (fun h J v9 hJ e => ?_)
  · exact k J _ (hC.on (fun q a b => hJ.2.2.2.2.1 q (by omega))) hJ.re (congrFun (hJ.2.2.2.2.1 out (by omega)) 0) (by rw [e, h]; rfl) (fun _ => rfl)
  · have hn : ¬ (rInLine S u v v3).1 = 0 := by rw [h]; decide
    exact k J v9 (hC.on (fun q a b => hJ.2.2.2.2.1 q (by omega))) hJ.re (congrFun (hJ.2.2.2.2.1 out (by omega)) 0) (by rw [e, h]; rfl) (fun q => absurd q hn)
  · have hn : ¬ (rInLine S u v v3).1 = 0 := by rw [h]; decide
    exact k J v9 (hC.on (fun q a b => hJ.2.2.2.2.1 q (by omega))) hJ.re (congrFun (hJ.2.2.2.2.1 out (by omega)) 0) (by rw [e, h]; rfl) (fun q => absurd q hn)
  · have hn : ¬ (rInLine S u v v3).1 = 0 := by rw [h]; decide
    exact k J v9 (hC.on (fun q a b => hJ.2.2.2.2.1 q (by omega))) hJ.re (congrFun (hJ.2.2.2.2.1 out (by omega)) 0) (by rw [e, h]; rfl) (fun q => absurd q hn)
theorem zM_why {l : Launch} {D : va_G} {b0 : Nat} {tA : Nat → ClassId} {sa sv : Nat → Nat} {K : Nat → Option Nat} {I : zI} {Qp : zI → Option AV → Prop} {x y out f f2 : Nat} {t t2 : Nat → Nat} {er er2 : Int32} {S S2 : zS} {U U2 : List zS} {u v : Int32}
    (hC : zCl I I x t2 f2 er2 S2 U2) (hR : zRf I I y t f er S U) (h1 : x + 501 ≤ y) (h2 : y + 14 ≤ out) (k : ∀ (J : zI) (v9 : Int32), zCl J J x t2 f2 er2 S2 U2 → zRf J J y t f er S U → J out 0 = I out 0 → J y 0 = nI (rWhy S u v).1 → ((rWhy S u v).1 = 0 → v9 = (rWhy S u v).2) → Qp J (some (vi v9))) :
    zC l D b0 tA sa sv K yX8_why (.code yX8_why cX8_why 3 (some .int)) zrm_X8_why [vr y 8, vi u, vi v] I Qp (fun _ _ => False) := by
  refine zq_X8_why hR (fun h J hJ e => ?_) (fun h J v9 hJ e => ?_) (fun h J v9 hJ e => ?_)
  · exact k J _ (hC.on (fun q a b => hJ.2.2.2.2.1 q (by omega))) hJ.re (congrFun (hJ.2.2.2.2.1 out (by omega)) 0) (by rw [e, h]; rfl) (fun _ => rfl)
  · have hn : ¬ (rWhy S u v).1 = 0 := by rw [h]; decide
    exact k J v9 (hC.on (fun q a b => hJ.2.2.2.2.1 q (by omega))) hJ.re (congrFun (hJ.2.2.2.2.1 out (by omega)) 0) (by rw [e, h]; rfl) (fun q => absurd q hn)
  · have hn : ¬ (rWhy S u v).1 = 0 := by rw [h]; decide
    exact k J v9 (hC.on (fun q a b => hJ.2.2.2.2.1 q (by omega))) hJ.re (congrFun (hJ.2.2.2.2.1 out (by omega)) 0) (by rw [e, h]; rfl) (fun q => absurd q hn)
theorem zM_whyNotJoin {l : Launch} {D : va_G} {b0 : Nat} {tA : Nat → ClassId} {sa sv : Nat → Nat} {K : Nat → Option Nat} {I : zI} {Qp : zI → Option AV → Prop} {x y out f f2 : Nat} {t t2 : Nat → Nat} {er er2 : Int32} {S S2 : zS} {U U2 : List zS} {u v v3 : Int32}
    (hC : zCl I I x t2 f2 er2 S2 U2) (hR : zRf I I y t f er S U) (h1 : x + 501 ≤ y) (h2 : y + 14 ≤ out) (k : ∀ (J : zI) (v9 : Int32), zCl J J x t2 f2 er2 S2 U2 → zRf J J y t f er S U → J out 0 = I out 0 → J y 0 = nI (rWhyJoin S u v v3).1 → ((rWhyJoin S u v v3).1 = 0 → v9 = (rWhyJoin S u v v3).2) → Qp J (some (vi v9))) :
    zC l D b0 tA sa sv K yX8_whyNotJoin (.code yX8_whyNotJoin cX8_whyNotJoin 4 (some .int)) zrm_X8_whyNotJoin [vr y 8, vi u, vi v, vi v3] I Qp (fun _ _ => False) := by
  refine zq_X8_whyNotJoin hR (fun h J hJ e => ?_) (fun h J v9 hJ e => ?_) (fun h J v9 hJ e => ?_)
  · exact k J _ (hC.on (fun q a b => hJ.2.2.2.2.1 q (by omega))) hJ.re (congrFun (hJ.2.2.2.2.1 out (by omega)) 0) (by rw [e, h]; rfl) (fun _ => rfl)
  · have hn : ¬ (rWhyJoin S u v v3).1 = 0 := by rw [h]; decide
    exact k J v9 (hC.on (fun q a b => hJ.2.2.2.2.1 q (by omega))) hJ.re (congrFun (hJ.2.2.2.2.1 out (by omega)) 0) (by rw [e, h]; rfl) (fun q => absurd q hn)
  · have hn : ¬ (rWhyJoin S u v v3).1 = 0 := by rw [h]; decide
    exact k J v9 (hC.on (fun q a b => hJ.2.2.2.2.1 q (by omega))) hJ.re (congrFun (hJ.2.2.2.2.1 out (by omega)) 0) (by rw [e, h]; rfl) (fun q => absurd q hn)
theorem zM_bestGate {l : Launch} {D : va_G} {b0 : Nat} {tA : Nat → ClassId} {sa sv : Nat → Nat} {K : Nat → Option Nat} {I : zI} {Qp : zI → Option AV → Prop} {x y out f f2 : Nat} {t t2 : Nat → Nat} {er er2 : Int32} {S S2 : zS} {U U2 : List zS} {v : Int32}
    (hC : zCl I I x t2 f2 er2 S2 U2) (hR : zRf I I y t f er S U) (h1 : x + 501 ≤ y) (h2 : y + 14 ≤ out) (k : ∀ (J : zI) (v9 : Int32), zCl J J x t2 f2 er2 S2 U2 → zRf J J y t f er S U → J out 0 = I out 0 → J y 0 = nI (rBest S v).1 → ((rBest S v).1 = 0 → v9 = (rBest S v).2) → Qp J (some (vi v9))) :
    zC l D b0 tA sa sv K yX8_bestGate (.code yX8_bestGate cX8_bestGate 4 (some .int)) zrm_X8_bestGate [vr y 8, vi v] I Qp (fun _ _ => False) := by
  refine zq_X8_bestGate hR (fun h J hJ e => ?_) (fun h J v9 hJ e => ?_)
  · exact k J _ (hC.on (fun q a b => hJ.2.2.2.2.1 q (by omega))) hJ.re (congrFun (hJ.2.2.2.2.1 out (by omega)) 0) (by rw [e, h]; rfl) (fun _ => rfl)
  · have hn : ¬ (rBest S v).1 = 0 := by rw [h]; decide
    exact k J v9 (hC.on (fun q a b => hJ.2.2.2.2.1 q (by omega))) hJ.re (congrFun (hJ.2.2.2.2.1 out (by omega)) 0) (by rw [e, h]; rfl) (fun q => absurd q hn)
theorem zM_nextSide {l : Launch} {D : va_G} {b0 : Nat} {tA : Nat → ClassId} {sa sv : Nat → Nat} {K : Nat → Option Nat} {I : zI} {Qp : zI → Option AV → Prop} {x y out f f2 : Nat} {t t2 : Nat → Nat} {er er2 : Int32} {S S2 : zS} {U U2 : List zS} {u : Int32}
    (hC : zCl I I x t2 f2 er2 S2 U2) (hR : zRf I I y t f er S U) (h1 : x + 501 ≤ y) (h2 : y + 14 ≤ out) (k : ∀ (J : zI) (v9 : Int32), zCl J J x t2 f2 er2 S2 U2 → zRf J J y t f er S U → J out 0 = I out 0 → J y 0 = nI (rNext S u).1 → ((rNext S u).1 = 0 → v9 = (rNext S u).2) → Qp J (some (vi v9))) :
    zC l D b0 tA sa sv K yX8_nextSide (.code yX8_nextSide cX8_nextSide 2 (some .int)) zrm_X8_nextSide [vr y 8, vi u] I Qp (fun _ _ => False) := by
  refine zq_X8_nextSide hR (fun h J hJ e => ?_) (fun h J v9 hJ e => ?_)
  · exact k J _ (hC.on (fun q a b => hJ.2.2.2.2.1 q (by omega))) hJ.re (congrFun (hJ.2.2.2.2.1 out (by omega)) 0) (by rw [e, h]; rfl) (fun _ => rfl)
  · have hn : ¬ (rNext S u).1 = 0 := by rw [h]; decide
    exact k J v9 (hC.on (fun q a b => hJ.2.2.2.2.1 q (by omega))) hJ.re (congrFun (hJ.2.2.2.2.1 out (by omega)) 0) (by rw [e, h]; rfl) (fun q => absurd q hn)
theorem zM_throughIn {l : Launch} {D : va_G} {b0 : Nat} {tA : Nat → ClassId} {sa sv : Nat → Nat} {K : Nat → Option Nat} {I : zI} {Qp : zI → Option AV → Prop} {x y out f f2 : Nat} {t t2 : Nat → Nat} {er er2 : Int32} {S S2 : zS} {U U2 : List zS} {v : Int32}
    (hC : zCl I I x t2 f2 er2 S2 U2) (hR : zRf I I y t f er S U) (h1 : x + 501 ≤ y) (h2 : y + 14 ≤ out) (hB : ∀ c, ∃ k, k ≤ 1000000000 ∧ sC S c 3 = nI k) (k : ∀ (J : zI) (v9 : Int32), zCl J J x t2 f2 er2 S2 U2 → zRf J J y t f er S U → J out 0 = I out 0 → J y 0 = nI (rThrough S v).1 → ((rThrough S v).1 = 0 → v9 = (rThrough S v).2) → Qp J (some (vi v9))) :
    zC l D b0 tA sa sv K yX8_throughIn (.code yX8_throughIn cX8_throughIn 3 (some .int)) zrm_X8_throughIn [vr y 8, vi v] I Qp (fun _ _ => False) := by
  refine zq_X8_throughIn hR hB (fun h J hJ e => ?_) (fun h J v9 hJ e => ?_)
  · exact k J _ (hC.on (fun q a b => hJ.2.2.2.2.1 q (by omega))) hJ.re (congrFun (hJ.2.2.2.2.1 out (by omega)) 0) (by rw [e, h]; rfl) (fun _ => rfl)
  · have hn : ¬ (rThrough S v).1 = 0 := by rw [h]; decide
    exact k J v9 (hC.on (fun q a b => hJ.2.2.2.2.1 q (by omega))) hJ.re (congrFun (hJ.2.2.2.2.1 out (by omega)) 0) (by rw [e, h]; rfl) (fun q => absurd q hn)
theorem zM_insideIn {l : Launch} {D : va_G} {b0 : Nat} {tA : Nat → ClassId} {sa sv : Nat → Nat} {K : Nat → Option Nat} {I : zI} {Qp : zI → Option AV → Prop} {x y out f f2 : Nat} {t t2 : Nat → Nat} {er er2 : Int32} {S S2 : zS} {U U2 : List zS} {v : Int32}
    (hC : zCl I I x t2 f2 er2 S2 U2) (hR : zRf I I y t f er S U) (h1 : x + 501 ≤ y) (h2 : y + 14 ≤ out) (k : ∀ (J : zI) (v9 : Int32), zCl J J x t2 f2 er2 S2 U2 → zRf J J y t f er S U → J out 0 = I out 0 → J y 0 = nI (rInside S v).1 → ((rInside S v).1 = 0 → v9 = (rInside S v).2) → Qp J (some (vi v9))) :
    zC l D b0 tA sa sv K yX8_insideIn (.code yX8_insideIn cX8_insideIn 2 (some .int)) zrm_X8_insideIn [vr y 8, vi v] I Qp (fun _ _ => False) := by
  refine zq_X8_insideIn hR (fun h J hJ e => ?_) (fun h J v9 hJ e => ?_)
  · exact k J _ (hC.on (fun q a b => hJ.2.2.2.2.1 q (by omega))) hJ.re (congrFun (hJ.2.2.2.2.1 out (by omega)) 0) (by rw [e, h]; rfl) (fun _ => rfl)
  · have hn : ¬ (rInside S v).1 = 0 := by rw [h]; decide
    exact k J v9 (hC.on (fun q a b => hJ.2.2.2.2.1 q (by omega))) hJ.re (congrFun (hJ.2.2.2.2.1 out (by omega)) 0) (by rw [e, h]; rfl) (fun q => absurd q hn)
theorem zM_followersIn {l : Launch} {D : va_G} {b0 : Nat} {tA : Nat → ClassId} {sa sv : Nat → Nat} {K : Nat → Option Nat} {I : zI} {Qp : zI → Option AV → Prop} {x y out f f2 : Nat} {t t2 : Nat → Nat} {er er2 : Int32} {S S2 : zS} {U U2 : List zS} {v : Int32}
    (hC : zCl I I x t2 f2 er2 S2 U2) (hR : zRf I I y t f er S U) (h1 : x + 501 ≤ y) (h2 : y + 14 ≤ out) (k : ∀ (J : zI) (v9 : Int32), zCl J J x t2 f2 er2 S2 U2 → zRf J J y t f er S U → J out 0 = I out 0 → J y 0 = nI (rFollow S v).1 → ((rFollow S v).1 = 0 → v9 = (rFollow S v).2) → Qp J (some (vi v9))) :
    zC l D b0 tA sa sv K yX8_followersIn (.code yX8_followersIn cX8_followersIn 2 (some .int)) zrm_X8_followersIn [vr y 8, vi v] I Qp (fun _ _ => False) := by
  refine zq_X8_followersIn hR (fun h J hJ e => ?_) (fun h J v9 hJ e => ?_)
  · exact k J _ (hC.on (fun q a b => hJ.2.2.2.2.1 q (by omega))) hJ.re (congrFun (hJ.2.2.2.2.1 out (by omega)) 0) (by rw [e, h]; rfl) (fun _ => rfl)
  · have hn : ¬ (rFollow S v).1 = 0 := by rw [h]; decide
    exact k J v9 (hC.on (fun q a b => hJ.2.2.2.2.1 q (by omega))) hJ.re (congrFun (hJ.2.2.2.2.1 out (by omega)) 0) (by rw [e, h]; rfl) (fun q => absurd q hn)
theorem zM_ranked {l : Launch} {D : va_G} {b0 : Nat} {tA : Nat → ClassId} {sa sv : Nat → Nat} {K : Nat → Option Nat} {I : zI} {Qp : zI → Option AV → Prop} {x y out f f2 : Nat} {t t2 : Nat → Nat} {er er2 : Int32} {S S2 : zS} {U U2 : List zS} {v : Int32}
    (hC : zCl I I x t2 f2 er2 S2 U2) (hR : zRf I I y t f er S U) (h1 : x + 501 ≤ y) (h2 : y + 14 ≤ out) (k : ∀ (J : zI) (v9 : Int32), zCl J J x t2 f2 er2 S2 U2 → zRf J J y t f er S U → J out 0 = I out 0 → J y 0 = nI (rRank S v).1 → ((rRank S v).1 = 0 → v9 = (rRank S v).2) → Qp J (some (vi v9))) :
    zC l D b0 tA sa sv K yX8_ranked (.code yX8_ranked cX8_ranked 6 (some .int)) zrm_X8_ranked [vr y 8, vi v] I Qp (fun _ _ => False) := by
  refine zq_X8_ranked hR (fun h J hJ e => ?_) (fun h J v9 hJ e => ?_)
  · exact k J _ (hC.on (fun q a b => hJ.2.2.2.2.1 q (by omega))) hJ.re (congrFun (hJ.2.2.2.2.1 out (by omega)) 0) (by rw [e, h]; rfl) (fun _ => rfl)
  · have hn : ¬ (rRank S v).1 = 0 := by rw [h]; decide
    exact k J v9 (hC.on (fun q a b => hJ.2.2.2.2.1 q (by omega))) hJ.re (congrFun (hJ.2.2.2.2.1 out (by omega)) 0) (by rw [e, h]; rfl) (fun q => absurd q hn)
theorem zM_join {l : Launch} {D : va_G} {b0 : Nat} {tA : Nat → ClassId} {sa sv : Nat → Nat} {K : Nat → Option Nat} {I : zI} {Qp : zI → Option AV → Prop} {x y out f f2 : Nat} {t t2 : Nat → Nat} {er er2 : Int32} {S S2 : zS} {U U2 : List zS} {u v v3 : Int32}
    (hC : zCl I I x t2 f2 er2 S2 U2) (hR : zRf I I y t f er S U) (h1 : x + 501 ≤ y) (h2 : y + 14 ≤ out) (k : ∀ (J : zI) (v9 : Int32), zCl J J x t2 f2 er2 S2 U2 → zRf J J y t f er (if (rJoin S u v v3).1 = 0 then sJoin S u v v3 else S) (if (rJoin S u v v3).1 = 0 then qPush S U else U) → J out 0 = I out 0 → J y 0 = nI (rJoin S u v v3).1 → ((rJoin S u v v3).1 = 0 → v9 = (rJoin S u v v3).2) → Qp J (some (vi v9))) :
    zC l D b0 tA sa sv K yX8_join (.code yX8_join cX8_join 5 (some .int)) zrm_X8_join [vr y 8, vi u, vi v, vi v3] I Qp (fun _ _ => False) := by
  refine zq_X8_join hR (fun h J hJ e => ?_) (fun h J v9 hJ e => ?_) (fun h J v9 hJ e => ?_)
  · simp only [if_pos h] at k
    exact k J _ (hC.on (fun q a b => hJ.2.2.2.2.1 q (by omega))) hJ.re (congrFun (hJ.2.2.2.2.1 out (by omega)) 0) (by rw [e, h]; rfl) (fun _ => rfl)
  · have hn : ¬ (rJoin S u v v3).1 = 0 := by rw [h]; decide
    simp only [if_neg hn] at k
    exact k J v9 (hC.on (fun q a b => hJ.2.2.2.2.1 q (by omega))) hJ.re (congrFun (hJ.2.2.2.2.1 out (by omega)) 0) (by rw [e, h]; rfl) (fun q => absurd q hn)
  · have hn : ¬ (rJoin S u v v3).1 = 0 := by rw [h]; decide
    simp only [if_neg hn] at k
    exact k J v9 (hC.on (fun q a b => hJ.2.2.2.2.1 q (by omega))) hJ.re (congrFun (hJ.2.2.2.2.1 out (by omega)) 0) (by rw [e, h]; rfl) (fun q => absurd q hn)
theorem zM_leave {l : Launch} {D : va_G} {b0 : Nat} {tA : Nat → ClassId} {sa sv : Nat → Nat} {K : Nat → Option Nat} {I : zI} {Qp : zI → Option AV → Prop} {x y out f f2 : Nat} {t t2 : Nat → Nat} {er er2 : Int32} {S S2 : zS} {U U2 : List zS} {u v v3 : Int32}
    (hC : zCl I I x t2 f2 er2 S2 U2) (hR : zRf I I y t f er S U) (h1 : x + 501 ≤ y) (h2 : y + 14 ≤ out) (k : ∀ (J : zI) (v9 : Int32), zCl J J x t2 f2 er2 S2 U2 → zRf J J y t f er (if (rLeave S u v v3).1 = 0 then sLeave S u v v3 else S) (if (rLeave S u v v3).1 = 0 then qPush S U else U) → J out 0 = I out 0 → J y 0 = nI (rLeave S u v v3).1 → ((rLeave S u v v3).1 = 0 → v9 = (rLeave S u v v3).2) → Qp J (some (vi v9))) :
    zC l D b0 tA sa sv K yX8_leave (.code yX8_leave cX8_leave 4 (some .int)) zrm_X8_leave [vr y 8, vi u, vi v, vi v3] I Qp (fun _ _ => False) := by
  refine zq_X8_leave hR (fun h J hJ e => ?_) (fun h J v9 hJ e => ?_) (fun h J v9 hJ e => ?_) (fun h J v9 hJ e => ?_) (fun h J v9 hJ e => ?_)
  · simp only [if_pos h] at k
    exact k J _ (hC.on (fun q a b => hJ.2.2.2.2.1 q (by omega))) hJ.re (congrFun (hJ.2.2.2.2.1 out (by omega)) 0) (by rw [e, h]; rfl) (fun _ => rfl)
  · have hn : ¬ (rLeave S u v v3).1 = 0 := by rw [h]; decide
    simp only [if_neg hn] at k
    exact k J v9 (hC.on (fun q a b => hJ.2.2.2.2.1 q (by omega))) hJ.re (congrFun (hJ.2.2.2.2.1 out (by omega)) 0) (by rw [e, h]; rfl) (fun q => absurd q hn)
  · have hn : ¬ (rLeave S u v v3).1 = 0 := by rw [h]; decide
    simp only [if_neg hn] at k
    exact k J v9 (hC.on (fun q a b => hJ.2.2.2.2.1 q (by omega))) hJ.re (congrFun (hJ.2.2.2.2.1 out (by omega)) 0) (by rw [e, h]; rfl) (fun q => absurd q hn)
  · have hn : ¬ (rLeave S u v v3).1 = 0 := by rw [h]; decide
    simp only [if_neg hn] at k
    exact k J v9 (hC.on (fun q a b => hJ.2.2.2.2.1 q (by omega))) hJ.re (congrFun (hJ.2.2.2.2.1 out (by omega)) 0) (by rw [e, h]; rfl) (fun q => absurd q hn)
  · have hn : ¬ (rLeave S u v v3).1 = 0 := by rw [h]; decide
    simp only [if_neg hn] at k
    exact k J v9 (hC.on (fun q a b => hJ.2.2.2.2.1 q (by omega))) hJ.re (congrFun (hJ.2.2.2.2.1 out (by omega)) 0) (by rw [e, h]; rfl) (fun q => absurd q hn)
theorem zM_list {l : Launch} {D : va_G} {b0 : Nat} {tA : Nat → ClassId} {sa sv : Nat → Nat} {K : Nat → Option Nat} {I : zI} {Qp : zI → Option AV → Prop} {x y out f f2 : Nat} {t t2 : Nat → Nat} {er er2 : Int32} {S S2 : zS} {U U2 : List zS} {u b : Int32}
    (hC : zCl I I x t2 f2 er2 S2 U2) (hR : zRf I I y t f er S U) (h1 : x + 501 ≤ y) (h2 : y + 14 ≤ out) (hb : b = 0 ∨ b = 1) (k : ∀ (J : zI) (v9 : Int32), zCl J J x t2 f2 er2 S2 U2 → zRf J J y t f er (if (rList S u b).1 = 0 then sList S u b else S) (if (rList S u b).1 = 0 then qPush S U else U) → J out 0 = I out 0 → J y 0 = nI (rList S u b).1 → ((rList S u b).1 = 0 → v9 = (rList S u b).2) → Qp J (some (vi v9))) :
    zC l D b0 tA sa sv K yX8_list (.code yX8_list cX8_list 5 (some .int)) zrm_X8_list [vr y 8, vi u, vi b] I Qp (fun _ _ => False) := by
  refine zq_X8_list hR hb (fun h J hJ e => ?_) (fun h J v9 hJ e => ?_)
  · simp only [if_pos h] at k
    exact k J _ (hC.on (fun q a b => hJ.2.2.2.2.1 q (by omega))) hJ.re (congrFun (hJ.2.2.2.2.1 out (by omega)) 0) (by rw [e, h]; rfl) (fun _ => rfl)
  · have hn : ¬ (rList S u b).1 = 0 := by rw [h]; decide
    simp only [if_neg hn] at k
    exact k J v9 (hC.on (fun q a b => hJ.2.2.2.2.1 q (by omega))) hJ.re (congrFun (hJ.2.2.2.2.1 out (by omega)) 0) (by rw [e, h]; rfl) (fun q => absurd q hn)
theorem zM_charge {l : Launch} {D : va_G} {b0 : Nat} {tA : Nat → ClassId} {sa sv : Nat → Nat} {K : Nat → Option Nat} {I : zI} {Qp : zI → Option AV → Prop} {x y out f f2 : Nat} {t t2 : Nat → Nat} {er er2 : Int32} {S S2 : zS} {U U2 : List zS} {u v : Int32}
    (hC : zCl I I x t2 f2 er2 S2 U2) (hR : zRf I I y t f er S U) (h1 : x + 501 ≤ y) (h2 : y + 14 ≤ out) (k : ∀ (J : zI) (v9 : Int32), zCl J J x t2 f2 er2 S2 U2 → zRf J J y t f er (if (rCharge S u v).1 = 0 then sCharge S u v else S) (if (rCharge S u v).1 = 0 then qPush S U else U) → J out 0 = I out 0 → J y 0 = nI (rCharge S u v).1 → ((rCharge S u v).1 = 0 → v9 = (rCharge S u v).2) → Qp J (some (vi v9))) :
    zC l D b0 tA sa sv K yX8_charge (.code yX8_charge cX8_charge 3 (some .int)) zrm_X8_charge [vr y 8, vi u, vi v] I Qp (fun _ _ => False) := by
  refine zq_X8_charge hR (fun h J hJ e => ?_) (fun h J v9 hJ e => ?_) (fun h J v9 hJ e => ?_) (fun h J v9 hJ e => ?_)
  · simp only [if_pos h] at k
    exact k J _ (hC.on (fun q a b => hJ.2.2.2.2.1 q (by omega))) hJ.re (congrFun (hJ.2.2.2.2.1 out (by omega)) 0) (by rw [e, h]; rfl) (fun _ => rfl)
  · have hn : ¬ (rCharge S u v).1 = 0 := by rw [h]; decide
    simp only [if_neg hn] at k
    exact k J v9 (hC.on (fun q a b => hJ.2.2.2.2.1 q (by omega))) hJ.re (congrFun (hJ.2.2.2.2.1 out (by omega)) 0) (by rw [e, h]; rfl) (fun q => absurd q hn)
  · have hn : ¬ (rCharge S u v).1 = 0 := by rw [h]; decide
    simp only [if_neg hn] at k
    exact k J v9 (hC.on (fun q a b => hJ.2.2.2.2.1 q (by omega))) hJ.re (congrFun (hJ.2.2.2.2.1 out (by omega)) 0) (by rw [e, h]; rfl) (fun q => absurd q hn)
  · have hn : ¬ (rCharge S u v).1 = 0 := by rw [h]; decide
    simp only [if_neg hn] at k
    exact k J v9 (hC.on (fun q a b => hJ.2.2.2.2.1 q (by omega))) hJ.re (congrFun (hJ.2.2.2.2.1 out (by omega)) 0) (by rw [e, h]; rfl) (fun q => absurd q hn)
theorem zM_mode {l : Launch} {D : va_G} {b0 : Nat} {tA : Nat → ClassId} {sa sv : Nat → Nat} {K : Nat → Option Nat} {I : zI} {Qp : zI → Option AV → Prop} {x y out f f2 : Nat} {t t2 : Nat → Nat} {er er2 : Int32} {S S2 : zS} {U U2 : List zS} {u v : Int32}
    (hC : zCl I I x t2 f2 er2 S2 U2) (hR : zRf I I y t f er S U) (h1 : x + 501 ≤ y) (h2 : y + 14 ≤ out) (k : ∀ (J : zI) (v9 : Int32), zCl J J x t2 f2 er2 S2 U2 → zRf J J y t f er (if (rMode S u v).1 = 0 then sMode S u v else S) (if (rMode S u v).1 = 0 then qPush S U else U) → J out 0 = I out 0 → J y 0 = nI (rMode S u v).1 → ((rMode S u v).1 = 0 → v9 = (rMode S u v).2) → Qp J (some (vi v9))) :
    zC l D b0 tA sa sv K yX8_mode (.code yX8_mode cX8_mode 5 (some .int)) zrm_X8_mode [vr y 8, vi u, vi v] I Qp (fun _ _ => False) := by
  refine zq_X8_mode hR (fun h J hJ e => ?_) (fun h J v9 hJ e => ?_) (fun h J v9 hJ e => ?_) (fun h J v9 hJ e => ?_)
  · simp only [if_pos h] at k
    exact k J _ (hC.on (fun q a b => hJ.2.2.2.2.1 q (by omega))) hJ.re (congrFun (hJ.2.2.2.2.1 out (by omega)) 0) (by rw [e, h]; rfl) (fun _ => rfl)
  · have hn : ¬ (rMode S u v).1 = 0 := by rw [h]; decide
    simp only [if_neg hn] at k
    exact k J v9 (hC.on (fun q a b => hJ.2.2.2.2.1 q (by omega))) hJ.re (congrFun (hJ.2.2.2.2.1 out (by omega)) 0) (by rw [e, h]; rfl) (fun q => absurd q hn)
  · have hn : ¬ (rMode S u v).1 = 0 := by rw [h]; decide
    simp only [if_neg hn] at k
    exact k J v9 (hC.on (fun q a b => hJ.2.2.2.2.1 q (by omega))) hJ.re (congrFun (hJ.2.2.2.2.1 out (by omega)) 0) (by rw [e, h]; rfl) (fun q => absurd q hn)
  · have hn : ¬ (rMode S u v).1 = 0 := by rw [h]; decide
    simp only [if_neg hn] at k
    exact k J v9 (hC.on (fun q a b => hJ.2.2.2.2.1 q (by omega))) hJ.re (congrFun (hJ.2.2.2.2.1 out (by omega)) 0) (by rw [e, h]; rfl) (fun q => absurd q hn)
theorem zM_key {l : Launch} {D : va_G} {b0 : Nat} {tA : Nat → ClassId} {sa sv : Nat → Nat} {K : Nat → Option Nat} {I : zI} {Qp : zI → Option AV → Prop} {x y out f f2 : Nat} {t t2 : Nat → Nat} {er er2 : Int32} {S S2 : zS} {U U2 : List zS} {v : Int32}
    (hC : zCl I I x t2 f2 er2 S2 U2) (hR : zRf I I y t f er S U) (h1 : x + 501 ≤ y) (h2 : y + 14 ≤ out) (k : ∀ (J : zI) (v9 : Int32), zCl J J x t2 f2 er2 S2 U2 → zRf J J y t f er (if (rKey S v).1 = 0 then sKey S v else S) (if (rKey S v).1 = 0 then qPush S U else U) → J out 0 = I out 0 → J y 0 = nI (rKey S v).1 → ((rKey S v).1 = 0 → v9 = (rKey S v).2) → Qp J (some (vi v9))) :
    zC l D b0 tA sa sv K yX8_key (.code yX8_key cX8_key 2 (some .int)) zrm_X8_key [vr y 8, vi v] I Qp (fun _ _ => False) := by
  refine zq_X8_key hR (fun h J hJ e => ?_) (fun h J v9 hJ e => ?_)
  · simp only [if_pos h] at k
    exact k J _ (hC.on (fun q a b => hJ.2.2.2.2.1 q (by omega))) hJ.re (congrFun (hJ.2.2.2.2.1 out (by omega)) 0) (by rw [e, h]; rfl) (fun _ => rfl)
  · have hn : ¬ (rKey S v).1 = 0 := by rw [h]; decide
    simp only [if_neg hn] at k
    exact k J v9 (hC.on (fun q a b => hJ.2.2.2.2.1 q (by omega))) hJ.re (congrFun (hJ.2.2.2.2.1 out (by omega)) 0) (by rw [e, h]; rfl) (fun q => absurd q hn)
theorem zM_tick {l : Launch} {D : va_G} {b0 : Nat} {tA : Nat → ClassId} {sa sv : Nat → Nat} {K : Nat → Option Nat} {I : zI} {Qp : zI → Option AV → Prop} {x y out f f2 : Nat} {t t2 : Nat → Nat} {er er2 : Int32} {S S2 : zS} {U U2 : List zS} {v : Int32}
    (hC : zCl I I x t2 f2 er2 S2 U2) (hR : zRf I I y t f er S U) (h1 : x + 501 ≤ y) (h2 : y + 14 ≤ out) (k : ∀ (J : zI) (v9 : Int32), zCl J J x t2 f2 er2 S2 U2 → zRf J J y t f er (if (rTick S v).1 = 0 then sTick S v else S) (if (rTick S v).1 = 0 then qPush S U else U) → J out 0 = I out 0 → J y 0 = nI (rTick S v).1 → ((rTick S v).1 = 0 → v9 = (rTick S v).2) → Qp J (some (vi v9))) :
    zC l D b0 tA sa sv K yX8_tick (.code yX8_tick cX8_tick 3 (some .int)) zrm_X8_tick [vr y 8, vi v] I Qp (fun _ _ => False) := by
  refine zq_X8_tick hR (fun h J hJ e => ?_) (fun h J v9 hJ e => ?_)
  · simp only [if_pos h] at k
    exact k J _ (hC.on (fun q a b => hJ.2.2.2.2.1 q (by omega))) hJ.re (congrFun (hJ.2.2.2.2.1 out (by omega)) 0) (by rw [e, h]; rfl) (fun _ => rfl)
  · have hn : ¬ (rTick S v).1 = 0 := by rw [h]; decide
    simp only [if_neg hn] at k
    exact k J v9 (hC.on (fun q a b => hJ.2.2.2.2.1 q (by omega))) hJ.re (congrFun (hJ.2.2.2.2.1 out (by omega)) 0) (by rw [e, h]; rfl) (fun q => absurd q hn)
theorem zM_load {l : Launch} {D : va_G} {b0 : Nat} {tA : Nat → ClassId} {sa sv : Nat → Nat} {K : Nat → Option Nat} {I : zI} {Qp : zI → Option AV → Prop} {x y out f f2 : Nat} {t t2 : Nat → Nat} {er er2 : Int32} {S S2 : zS} {U U2 : List zS} {v : Int32}
    (hC : zCl I I x t2 f2 er2 S2 U2) (hR : zRf I I y t f er S U) (h1 : x + 501 ≤ y) (h2 : y + 14 ≤ out) (k : ∀ (J : zI) (v9 : Int32), zCl J J x t2 f2 er2 S2 U2 → zRf J J y t (fLoad f v) (eLoad t f v er) (sLoad t f v S) (uLoad t f v S U) → J out 0 = I out 0 → J y 0 = nI (rLoad t f v).1 → ((rLoad t f v).1 = 0 → v9 = (rLoad t f v).2) → Qp J (some (vi v9))) :
    zC l D b0 tA sa sv K yX8_load (.code yX8_load cX8_load 3 (some .int)) zrm_X8_load [vr y 8, vi v] I Qp (fun _ _ => False) := by
  refine zq_X8_load hR (fun h J hJ e => ?_) (fun h J v9 hJ e => ?_)
  · exact k J _ (hC.on (fun q a b => hJ.2.2.2.2.1 q (by omega))) hJ.re (congrFun (hJ.2.2.2.2.1 out (by omega)) 0) (by rw [e, h]; rfl) (fun _ => rfl)
  · have hn : ¬ (rLoad t f v).1 = 0 := by rw [h]; decide
    exact k J v9 (hC.on (fun q a b => hJ.2.2.2.2.1 q (by omega))) hJ.re (congrFun (hJ.2.2.2.2.1 out (by omega)) 0) (by rw [e, h]; rfl) (fun q => absurd q hn)
theorem zM_errorOffset {l : Launch} {D : va_G} {b0 : Nat} {tA : Nat → ClassId} {sa sv : Nat → Nat} {K : Nat → Option Nat} {I : zI} {Qp : zI → Option AV → Prop} {x y out f f2 : Nat} {t t2 : Nat → Nat} {er er2 : Int32} {S S2 : zS} {U U2 : List zS}
    (hC : zCl I I x t2 f2 er2 S2 U2) (hR : zRf I I y t f er S U) (h1 : x + 501 ≤ y) (h2 : y + 14 ≤ out) (k : ∀ J : zI, zCl J J x t2 f2 er2 S2 U2 → zRf J J y t f er S U → Qp J (some (vi er))) :
    zC l D b0 tA sa sv K yX8_errorOffset (.code yX8_errorOffset cX8_errorOffset 1 (some .int)) zrm_X8_errorOffset [vr y 8] I Qp (fun _ _ => False) :=
  zq_X8_errorOffset hR (fun J hJ e => k J (hC.on (fun q a b => hJ.2.2.2.2.1 q (by omega))) hJ.re)
theorem zM_outInPanic {l : Launch} {D : va_G} {b0 : Nat} {tA : Nat → ClassId} {sa sv : Nat → Nat} {K : Nat → Option Nat} {I : zI} {Qp : zI → Option AV → Prop} {x y out f f2 : Nat} {t t2 : Nat → Nat} {er er2 : Int32} {S S2 : zS} {U U2 : List zS}
    (hC : zCl I I x t2 f2 er2 S2 U2) (hR : zRf I I y t f er S U) (h1 : x + 501 ≤ y) (h2 : y + 14 ≤ out) (k : ∀ J : zI, zCl J J x t2 f2 er2 S2 U2 → zRf J J y t f er S U → Qp J (some (vi (nI (qOut S))))) :
    zC l D b0 tA sa sv K yX8_outInPanic (.code yX8_outInPanic cX8_outInPanic 3 (some .int)) zrm_X8_outInPanic [vr y 8] I Qp (fun _ _ => False) :=
  zq_X8_outInPanic hR (fun J hJ e => k J (hC.on (fun q a b => hJ.2.2.2.2.1 q (by omega))) hJ.re)
theorem zM_gap {l : Launch} {D : va_G} {b0 : Nat} {tA : Nat → ClassId} {sa sv : Nat → Nat} {K : Nat → Option Nat} {I : zI} {Qp : zI → Option AV → Prop} {x y out f f2 : Nat} {t t2 : Nat → Nat} {er er2 : Int32} {S S2 : zS} {U U2 : List zS}
    (hC : zCl I I x t2 f2 er2 S2 U2) (hR : zRf I I y t f er S U) (h1 : x + 501 ≤ y) (h2 : y + 14 ≤ out) (k : ∀ J : zI, zCl J J x t2 f2 er2 S2 U2 → zRf J J y t f er S U → Qp J (some (vi (qGap S)))) :
    zC l D b0 tA sa sv K yX8_gap (.code yX8_gap cX8_gap 4 (some .int)) zrm_X8_gap [vr y 8] I Qp (fun _ _ => False) :=
  zq_X8_gap hR (fun J hJ e => k J (hC.on (fun q a b => hJ.2.2.2.2.1 q (by omega))) hJ.re)
theorem zM_followerShare {l : Launch} {D : va_G} {b0 : Nat} {tA : Nat → ClassId} {sa sv : Nat → Nat} {K : Nat → Option Nat} {I : zI} {Qp : zI → Option AV → Prop} {x y out f f2 : Nat} {t t2 : Nat → Nat} {er er2 : Int32} {S S2 : zS} {U U2 : List zS}
    (hC : zCl I I x t2 f2 er2 S2 U2) (hR : zRf I I y t f er S U) (h1 : x + 501 ≤ y) (h2 : y + 14 ≤ out) (k : ∀ J : zI, zCl J J x t2 f2 er2 S2 U2 → zRf J J y t f er S U → Qp J (some (vf (qShare S)))) :
    zC l D b0 tA sa sv K yX8_followerShare (.code yX8_followerShare cX8_followerShare 2 (some .float)) zrm_X8_followerShare [vr y 8] I Qp (fun _ _ => False) :=
  zq_X8_followerShare hR (fun J hJ e => k J (hC.on (fun q a b => hJ.2.2.2.2.1 q (by omega))) hJ.re)
theorem zM_checksum {l : Launch} {D : va_G} {b0 : Nat} {tA : Nat → ClassId} {sa sv : Nat → Nat} {K : Nat → Option Nat} {I : zI} {Qp : zI → Option AV → Prop} {x y out f f2 : Nat} {t t2 : Nat → Nat} {er er2 : Int32} {S S2 : zS} {U U2 : List zS}
    (hC : zCl I I x t2 f2 er2 S2 U2) (hR : zRf I I y t f er S U) (h1 : x + 501 ≤ y) (h2 : y + 14 ≤ out) (k : ∀ J : zI, zCl J J x t2 f2 er2 S2 U2 → zRf J J y t f er S U → Qp J (some (vl (qSum S)))) :
    zC l D b0 tA sa sv K yX8_checksum (.code yX8_checksum cX8_checksum 6 (some .long)) zrm_X8_checksum [vr y 8] I Qp (fun _ _ => False) :=
  zq_X8_checksum hR (fun J hJ e => k J (hC.on (fun q a b => hJ.2.2.2.2.1 q (by omega))) hJ.re)
theorem zM_undo {l : Launch} {D : va_G} {b0 : Nat} {tA : Nat → ClassId} {sa sv : Nat → Nat} {K : Nat → Option Nat} {I : zI} {Qp : zI → Option AV → Prop} {x y out f f2 : Nat} {t t2 : Nat → Nat} {er er2 : Int32} {S S2 : zS} {U U2 : List zS}
    (hC : zCl I I x t2 f2 er2 S2 U2) (hR : zRf I I y t f er S U) (h1 : x + 501 ≤ y) (h2 : y + 14 ≤ out) (k : ∀ J : zI, zCl J J x t2 f2 er2 S2 U2 → zRf J J y t f er (sUndo S U) U.tail → Qp J (some (vi (rUndo U)))) :
    zC l D b0 tA sa sv K yX8_undo (.code yX8_undo cX8_undo 1 (some .int)) zrm_X8_undo [vr y 8] I Qp (fun _ _ => False) :=
  zq_X8_undo hR (fun J hJ e => k J (hC.on (fun q a b => hJ.2.2.2.2.1 q (by omega))) hJ.re)
theorem zM_append {l : Launch} {D : va_G} {b0 : Nat} {tA : Nat → ClassId} {sa sv : Nat → Nat} {K : Nat → Option Nat} {I : zI} {Qp : zI → Option AV → Prop} {x y out f f2 : Nat} {t t2 : Nat → Nat} {er er2 : Int32} {S S2 : zS} {U U2 : List zS} {w1 w2 w3 w4 w5 : Int32}
    (hC : zCl I I x t2 f2 er2 S2 U2) (hR : zRf I I y t f er S U) (h1 : x + 501 ≤ y) (h2 : y + 14 ≤ out) (k : ∀ J : zI, zCl J J x t2 f2 er2 S2 U2 → zRf J J y (tApp2 t f w1 w2 w3 w4 w5) (fApp f) er S U → Qp J (some (vi (rApp f)))) :
    zC l D b0 tA sa sv K yX8_append (.code yX8_append cX8_append 8 (some .int)) zrm_X8_append [vr y 8, vi w1, vi w2, vi w3, vi w4, vi w5] I Qp (fun _ _ => False) := by
  unfold tApp2 fApp rApp at k
  refine zq_X8_append hR (fun h J hJ e => ?_) (fun h J hJ e => ?_)
  · simp only [if_pos h] at k
    exact k J (hC.on (fun q a b => hJ.2.2.2.2.1 q (by omega))) hJ.re
  · simp only [if_neg h] at k
    exact k J (hC.on (fun q a b => hJ.2.2.2.2.1 q (by omega))) hJ.re
theorem zN_undo {l : Launch} {D : va_G} {b0 : Nat} {tA : Nat → ClassId} {sa sv : Nat → Nat} {K : Nat → Option Nat} {I : zI} {Qp : zI → Option AV → Prop} {x y out f f2 : Nat} {t t2 : Nat → Nat} {er er2 : Int32} {S S2 : zS} {U U2 : List zS}
    (hC : zCl I I x t f er S U) (hR : zRf I I y t2 f2 er2 S2 U2) (h1 : x + 501 ≤ y) (k : ∀ J : zI, zCl J J x t f er (sUndo S U) U.tail → zRf J J y t2 f2 er2 S2 U2 → Qp J (some (vi (rUndo U)))) :
    zC l D b0 tA sa sv K yX7_undo (.code yX7_undo cX7_undo 1 (some .int)) zrm_X7_undo [vr x 7] I Qp (fun _ _ => False) :=
  zq_X7_undo hC (fun J hJ => k J hJ.re (hR.on (fun q a b => hJ.2.2.2.2.1.2 q (Or.inr (by omega)))))
theorem zN_append {l : Launch} {D : va_G} {b0 : Nat} {tA : Nat → ClassId} {sa sv : Nat → Nat} {K : Nat → Option Nat} {I : zI} {Qp : zI → Option AV → Prop} {x y out f f2 : Nat} {t t2 : Nat → Nat} {er er2 : Int32} {S S2 : zS} {U U2 : List zS} {w1 w2 w3 w4 w5 : Int32}
    (hC : zCl I I x t f er S U) (hR : zRf I I y t2 f2 er2 S2 U2) (h1 : x + 501 ≤ y) (k : ∀ J : zI, zCl J J x (tApp2 t f w1 w2 w3 w4 w5) (fApp f) er S U → zRf J J y t2 f2 er2 S2 U2 → Qp J (some (vi (rApp f)))) :
    zC l D b0 tA sa sv K yX7_append (.code yX7_append cX7_append 6 (some .int)) zrm_X7_append [vr x 7, vi w1, vi w2, vi w3, vi w4, vi w5] I Qp (fun _ _ => False) := by
  unfold tApp2 fApp rApp at k
  refine zq_X7_append hC (fun h J hJ => ?_) (fun h => ?_)
  · simp only [if_pos h] at k
    exact k J hJ.re (hR.on (fun q a b => hJ.2.2.2.2.1.2 q (Or.inr (by omega))))
  · simp only [if_neg h] at k
    exact k I hC hR
