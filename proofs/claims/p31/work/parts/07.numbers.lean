/-! ===== branches between small numbers ===== -/
theorem zn_eq {a b : Nat} (ha : a < 2 ^ 31) (hb : b < 2 ^ 31) : nI a = nI b ↔ a = b := nI_eq ha hb
theorem zn_i0 {a : Nat} (ha : a < 2 ^ 31) : (nI a = 0 ↔ a = 0) ∧ (nI a < 0 ↔ False) ∧ (0 ≤ nI a ↔ True) ∧ (0 < nI a ↔ 0 < a) ∧ (nI a ≤ 0 ↔ a = 0) := by
  refine ⟨?_, ⟨fun h => nI_pos ha h, fun h => h.elim⟩, ⟨fun _ => trivial, fun _ => nI_pos' ha⟩, ?_, ?_⟩
  · have := nI_eq (b := 0) ha (by decide)
    rw [nI_0] at this; exact this
  · have := nI_ltI (a := 0) (b := a) (by decide) ha
    rw [nI_0] at this; exact this
  · have := nI_leI (a := a) (b := 0) ha (by decide)
    rw [nI_0] at this; rw [this]; omega
section ZNB
variable {p : Program} {l : Launch} {e : Env} {R : Room} {s : State} {m : MethodId} {args : Array Value} {below : List Frame} {meth : Method} {c : Code} {cells slots : Nat} {Q : State → Prop}
variable {cc : ByteArray} {pc nL : Nat} {D : va_G} {b0 : Nat} {tA : Nat → ClassId} {sa sv : Nat → Nat} {K : zKt} {own : String} {ret : Option FieldType} {lv : List (Option AV)} {st : List AV} {I : zI}
theorem zr_nicmp_eq (X : zX p l e R s m args below meth c own cc nL ret D b0 tA sa sv) (a b : Nat) {off : Int} {tgt : Nat} (ha : a < 2 ^ 31) (hb : b < 2 ^ 31) (hd : decode cc pc = .ok (.if_icmp .eq off, 3)) (ht : (pc : Int) + off = (tgt : Int)) (kt : a = b → zG p l e R s m args below meth c nL D b0 tA sa cells slots Q K tgt lv st I) (kf : ¬ (a = b) → zG p l e R s m args below meth c nL D b0 tA sa cells slots Q K (pc + 3) lv st I) : zG p l e R s m args below meth c nL D b0 tA sa cells slots Q K pc lv (vi (nI b) :: vi (nI a) :: st) I := zr_icmp_eq X hd ht (fun h => kt ((nI_eq ha hb).mp h)) (fun h => kf (fun q => h ((nI_eq ha hb).mpr q)))
theorem zr_nicmp_ne (X : zX p l e R s m args below meth c own cc nL ret D b0 tA sa sv) (a b : Nat) {off : Int} {tgt : Nat} (ha : a < 2 ^ 31) (hb : b < 2 ^ 31) (hd : decode cc pc = .ok (.if_icmp .ne off, 3)) (ht : (pc : Int) + off = (tgt : Int)) (kt : ¬ a = b → zG p l e R s m args below meth c nL D b0 tA sa cells slots Q K tgt lv st I) (kf : a = b → zG p l e R s m args below meth c nL D b0 tA sa cells slots Q K (pc + 3) lv st I) : zG p l e R s m args below meth c nL D b0 tA sa cells slots Q K pc lv (vi (nI b) :: vi (nI a) :: st) I := zr_icmp_ne X hd ht (fun h => kt (fun q => h ((nI_eq ha hb).mpr q))) (fun h => kf ((nI_eq ha hb).mp h))
theorem zr_nicmp_lt (X : zX p l e R s m args below meth c own cc nL ret D b0 tA sa sv) (a b : Nat) {off : Int} {tgt : Nat} (ha : a < 2 ^ 31) (hb : b < 2 ^ 31) (hd : decode cc pc = .ok (.if_icmp .lt off, 3)) (ht : (pc : Int) + off = (tgt : Int)) (kt : a < b → zG p l e R s m args below meth c nL D b0 tA sa cells slots Q K tgt lv st I) (kf : ¬ (a < b) → zG p l e R s m args below meth c nL D b0 tA sa cells slots Q K (pc + 3) lv st I) : zG p l e R s m args below meth c nL D b0 tA sa cells slots Q K pc lv (vi (nI b) :: vi (nI a) :: st) I := zr_icmp_lt X hd ht (fun h => kt ((nI_ltI ha hb).mp h)) (fun h => kf (fun q => h ((nI_ltI ha hb).mpr q)))
theorem zr_nicmp_ge (X : zX p l e R s m args below meth c own cc nL ret D b0 tA sa sv) (a b : Nat) {off : Int} {tgt : Nat} (ha : a < 2 ^ 31) (hb : b < 2 ^ 31) (hd : decode cc pc = .ok (.if_icmp .ge off, 3)) (ht : (pc : Int) + off = (tgt : Int)) (kt : b ≤ a → zG p l e R s m args below meth c nL D b0 tA sa cells slots Q K tgt lv st I) (kf : ¬ (b ≤ a) → zG p l e R s m args below meth c nL D b0 tA sa cells slots Q K (pc + 3) lv st I) : zG p l e R s m args below meth c nL D b0 tA sa cells slots Q K pc lv (vi (nI b) :: vi (nI a) :: st) I := zr_icmp_ge X hd ht (fun h => kt ((nI_leI hb ha).mp h)) (fun h => kf (fun q => h ((nI_leI hb ha).mpr q)))
theorem zr_nicmp_gt (X : zX p l e R s m args below meth c own cc nL ret D b0 tA sa sv) (a b : Nat) {off : Int} {tgt : Nat} (ha : a < 2 ^ 31) (hb : b < 2 ^ 31) (hd : decode cc pc = .ok (.if_icmp .gt off, 3)) (ht : (pc : Int) + off = (tgt : Int)) (kt : b < a → zG p l e R s m args below meth c nL D b0 tA sa cells slots Q K tgt lv st I) (kf : ¬ (b < a) → zG p l e R s m args below meth c nL D b0 tA sa cells slots Q K (pc + 3) lv st I) : zG p l e R s m args below meth c nL D b0 tA sa cells slots Q K pc lv (vi (nI b) :: vi (nI a) :: st) I := zr_icmp_gt X hd ht (fun h => kt ((nI_ltI hb ha).mp h)) (fun h => kf (fun q => h ((nI_ltI hb ha).mpr q)))
theorem zr_nicmp_le (X : zX p l e R s m args below meth c own cc nL ret D b0 tA sa sv) (a b : Nat) {off : Int} {tgt : Nat} (ha : a < 2 ^ 31) (hb : b < 2 ^ 31) (hd : decode cc pc = .ok (.if_icmp .le off, 3)) (ht : (pc : Int) + off = (tgt : Int)) (kt : a ≤ b → zG p l e R s m args below meth c nL D b0 tA sa cells slots Q K tgt lv st I) (kf : ¬ (a ≤ b) → zG p l e R s m args below meth c nL D b0 tA sa cells slots Q K (pc + 3) lv st I) : zG p l e R s m args below meth c nL D b0 tA sa cells slots Q K pc lv (vi (nI b) :: vi (nI a) :: st) I := zr_icmp_le X hd ht (fun h => kt ((nI_leI ha hb).mp h)) (fun h => kf (fun q => h ((nI_leI ha hb).mpr q)))
theorem zr_nif_eq (X : zX p l e R s m args below meth c own cc nL ret D b0 tA sa sv) (a : Nat) {off : Int} {tgt : Nat} (ha : a < 2 ^ 31) (hd : decode cc pc = .ok (.ifCond .eq off, 3)) (ht : (pc : Int) + off = (tgt : Int)) (kt : a = 0 → zG p l e R s m args below meth c nL D b0 tA sa cells slots Q K tgt lv st I) (kf : ¬ (a = 0) → zG p l e R s m args below meth c nL D b0 tA sa cells slots Q K (pc + 3) lv st I) : zG p l e R s m args below meth c nL D b0 tA sa cells slots Q K pc lv (vi (nI a) :: st) I := zr_if_eq X hd ht (fun h => kt (((zn_i0 ha).1).mp h)) (fun h => kf (fun q => h (((zn_i0 ha).1).mpr q)))
theorem zr_nif_ne (X : zX p l e R s m args below meth c own cc nL ret D b0 tA sa sv) (a : Nat) {off : Int} {tgt : Nat} (ha : a < 2 ^ 31) (hd : decode cc pc = .ok (.ifCond .ne off, 3)) (ht : (pc : Int) + off = (tgt : Int)) (kt : ¬ a = 0 → zG p l e R s m args below meth c nL D b0 tA sa cells slots Q K tgt lv st I) (kf : a = 0 → zG p l e R s m args below meth c nL D b0 tA sa cells slots Q K (pc + 3) lv st I) : zG p l e R s m args below meth c nL D b0 tA sa cells slots Q K pc lv (vi (nI a) :: st) I := zr_if_ne X hd ht (fun h => kt (fun q => h ((zn_i0 ha).1.mpr q))) (fun h => kf ((zn_i0 ha).1.mp h))
theorem zr_nif_lt (X : zX p l e R s m args below meth c own cc nL ret D b0 tA sa sv) (a : Nat) {off : Int} {tgt : Nat} (ha : a < 2 ^ 31) (hd : decode cc pc = .ok (.ifCond .lt off, 3)) (ht : (pc : Int) + off = (tgt : Int)) (kt : False → zG p l e R s m args below meth c nL D b0 tA sa cells slots Q K tgt lv st I) (kf : ¬ (False) → zG p l e R s m args below meth c nL D b0 tA sa cells slots Q K (pc + 3) lv st I) : zG p l e R s m args below meth c nL D b0 tA sa cells slots Q K pc lv (vi (nI a) :: st) I := zr_if_lt X hd ht (fun h => kt (((zn_i0 ha).2.1).mp h)) (fun h => kf (fun q => h (((zn_i0 ha).2.1).mpr q)))
theorem zr_nif_ge (X : zX p l e R s m args below meth c own cc nL ret D b0 tA sa sv) (a : Nat) {off : Int} {tgt : Nat} (ha : a < 2 ^ 31) (hd : decode cc pc = .ok (.ifCond .ge off, 3)) (ht : (pc : Int) + off = (tgt : Int)) (kt : True → zG p l e R s m args below meth c nL D b0 tA sa cells slots Q K tgt lv st I) (kf : ¬ (True) → zG p l e R s m args below meth c nL D b0 tA sa cells slots Q K (pc + 3) lv st I) : zG p l e R s m args below meth c nL D b0 tA sa cells slots Q K pc lv (vi (nI a) :: st) I := zr_if_ge X hd ht (fun h => kt (((zn_i0 ha).2.2.1).mp h)) (fun h => kf (fun q => h (((zn_i0 ha).2.2.1).mpr q)))
theorem zr_nif_gt (X : zX p l e R s m args below meth c own cc nL ret D b0 tA sa sv) (a : Nat) {off : Int} {tgt : Nat} (ha : a < 2 ^ 31) (hd : decode cc pc = .ok (.ifCond .gt off, 3)) (ht : (pc : Int) + off = (tgt : Int)) (kt : 0 < a → zG p l e R s m args below meth c nL D b0 tA sa cells slots Q K tgt lv st I) (kf : ¬ (0 < a) → zG p l e R s m args below meth c nL D b0 tA sa cells slots Q K (pc + 3) lv st I) : zG p l e R s m args below meth c nL D b0 tA sa cells slots Q K pc lv (vi (nI a) :: st) I := zr_if_gt X hd ht (fun h => kt (((zn_i0 ha).2.2.2.1).mp h)) (fun h => kf (fun q => h (((zn_i0 ha).2.2.2.1).mpr q)))
theorem zr_nif_le (X : zX p l e R s m args below meth c own cc nL ret D b0 tA sa sv) (a : Nat) {off : Int} {tgt : Nat} (ha : a < 2 ^ 31) (hd : decode cc pc = .ok (.ifCond .le off, 3)) (ht : (pc : Int) + off = (tgt : Int)) (kt : a = 0 → zG p l e R s m args below meth c nL D b0 tA sa cells slots Q K tgt lv st I) (kf : ¬ (a = 0) → zG p l e R s m args below meth c nL D b0 tA sa cells slots Q K (pc + 3) lv st I) : zG p l e R s m args below meth c nL D b0 tA sa cells slots Q K pc lv (vi (nI a) :: st) I := zr_if_le X hd ht (fun h => kt (((zn_i0 ha).2.2.2.2).mp h)) (fun h => kf (fun q => h (((zn_i0 ha).2.2.2.2).mpr q)))
/-- locals that are no more asked for -/
theorem zr_forget {lv2 : List (Option AV)} (h : ∀ (j : Nat) (v : AV), lv2[j]? = some (some v) → lv[j]? = some (some v)) (k : zG p l e R s m args below meth c nL D b0 tA sa cells slots Q K pc lv2 st I) : zG p l e R s m args below meth c nL D b0 tA sa cells slots Q K pc lv st I := by
  intro hi hs hl ls hls
  refine k hi hs (fun j v hv => hl j v (h j v hv)) ls ?_
  obtain ⟨l9, h1, h2⟩ := hls
  exact ⟨l9, h1, fun j v hv => h2 j v (h j v hv)⟩
/-- two heaps of numbers of which the machine sees no difference -/
theorem zr_same {I2 : zI} (h : ∀ q, I q = I2 q) (k : zG p l e R s m args below meth c nL D b0 tA sa cells slots Q K pc lv st I2) : zG p l e R s m args below meth c nL D b0 tA sa cells slots Q K pc lv st I := by
  rw [show I = I2 from funext h]; exact k
end ZNB
theorem zput_ne {I : zI} {A j q i : Nat} {x : Int32} (h : q ≠ A) : zput I A j x q i = I q i := by rw [zput, if_neg h]
theorem zput_nj {I : zI} {A j q i : Nat} {x : Int32} (h : i ≠ j) : zput I A j x q i = I q i := by rw [zput, if_neg h]; split <;> rfl
theorem zput_eq {I : zI} {A j : Nat} {x : Int32} : zput I A j x A j = x := by rw [zput, if_pos rfl, if_pos rfl]
theorem zput_nq {I : zI} {A j q : Nat} {x : Int32} (h : q ≠ A) : zput I A j x q = I q := by funext i; exact zput_ne h
theorem zb8 (x : Int32) : x.toInt8.toInt32.toInt8.toInt32 = x.toInt8.toInt32 := by simp
theorem zr_eq {p : Program} {l : Launch} {e : Env} {R : Room} {s : State} {m : MethodId} {args : Array Value} {below : List Frame} {meth : Method} {c : Code} {nL : Nat} {D : va_G} {b0 : Nat} {tA : Nat → ClassId} {sa : Nat → Nat} {cells slots : Nat} {Q : State → Prop} {K : zKt} {pc : Nat} {lv : List (Option AV)} {st : List AV} {I : zI} {x x2 : Int32} (h : x = x2) (k : zG p l e R s m args below meth c nL D b0 tA sa cells slots Q K pc lv (vi x2 :: st) I) : zG p l e R s m args below meth c nL D b0 tA sa cells slots Q K pc lv (vi x :: st) I := h ▸ k
/-- outside of some addresses nothing is changed -/
def zag (I I' : zI) (lo n : Nat) : Prop := ∀ q : Nat, (q < lo ∨ lo + n ≤ q) → I' q = I q
theorem zag.rf {I : zI} {lo n : Nat} : zag I I lo n := fun _ _ => rfl
theorem zag.put {I I' : zI} {lo n a j : Nat} {x : Int32} (h : zag I I' lo n) (h1 : lo ≤ a) (h2 : a < lo + n) : zag I (zput I' a j x) lo n := fun q hq => (zput_nq (by omega)).trans (h q hq)
theorem zag.tr {I I' I2 : zI} {lo n lo2 n2 : Nat} (h : zag I I' lo n) (h2 : zag I' I2 lo2 n2) (h3 : lo ≤ lo2) (h4 : lo2 + n2 ≤ lo + n) : zag I I2 lo n := fun q hq => (h2 q (by omega)).trans (h q hq)
theorem zag.wide {I I' : zI} {lo n lo2 n2 : Nat} (h2 : zag I I' lo2 n2) (h3 : lo ≤ lo2) (h4 : lo2 + n2 ≤ lo + n) : zag I I' lo n := fun q hq => h2 q (by omega)
/-- a stretch moved one on to the left, to the right -/
def zshl (I : zI) (d lo hi : Nat) : zI := fun q i => if q = d ∧ lo ≤ i ∧ i < hi then I d (i + 1) else I q i
theorem zshl_0 {I : zI} {d lo : Nat} : zshl I d lo lo = I := by
  funext q i; rw [zshl, if_neg (by omega)]
theorem zshl_s {I : zI} {d lo k : Nat} (h : lo ≤ k) : zput (zshl I d lo k) d k (zshl I d lo k d (k + 1)) = zshl I d lo (k + 1) := by
  funext q i
  by_cases hq : q = d
  · subst hq
    by_cases hi : i = k
    · subst hi
      rw [zput_eq, zshl, if_neg (by omega), zshl, if_pos ⟨rfl, h, Nat.lt_succ_self _⟩]
    · rw [zput_nj hi, zshl, zshl]
      by_cases h2 : lo ≤ i ∧ i < k
      · rw [if_pos ⟨rfl, h2⟩, if_pos ⟨rfl, h2.1, by omega⟩]
      · rw [if_neg (fun z => h2 z.2), if_neg (by omega)]
  · rw [zput_ne hq, zshl, if_neg (fun z => hq z.1), zshl, if_neg (fun z => hq z.1)]
theorem zshl_ne {I : zI} {d lo hi q : Nat} (h : q ≠ d) : zshl I d lo hi q = I q := by funext i; rw [zshl, if_neg (fun z => h z.1)]
theorem zshl_in {I : zI} {d lo hi i : Nat} (h : lo ≤ i) (h2 : i < hi) : zshl I d lo hi d i = I d (i + 1) := by rw [zshl, if_pos ⟨rfl, h, h2⟩]
theorem zshl_out {I : zI} {d lo hi q i : Nat} (h : i < lo ∨ hi ≤ i) : zshl I d lo hi q i = I q i := by rw [zshl, if_neg (by omega)]
def zshr (I : zI) (d lo hi : Nat) : zI := fun q i => if q = d ∧ lo < i ∧ i ≤ hi then I d (i - 1) else I q i
theorem zshr_0 {I : zI} {d hi : Nat} : zshr I d hi hi = I := by
  funext q i; rw [zshr, if_neg (by omega)]
theorem zshr_s {I : zI} {d hi k : Nat} (h : k + 1 ≤ hi) : zput (zshr I d (k + 1) hi) d (k + 1) (zshr I d (k + 1) hi d k) = zshr I d k hi := by
  funext q i
  by_cases hq : q = d
  · subst hq
    by_cases hi2 : i = k + 1
    · subst hi2
      rw [zput_eq, zshr, if_neg (by omega), zshr, if_pos ⟨rfl, Nat.lt_succ_self _, h⟩]; rfl
    · rw [zput_nj hi2, zshr, zshr]
      by_cases h2 : k + 1 < i ∧ i ≤ hi
      · rw [if_pos ⟨rfl, h2⟩, if_pos ⟨rfl, by omega, h2.2⟩]
      · rw [if_neg (fun z => h2 z.2), if_neg (by omega)]
  · rw [zput_ne hq, zshr, if_neg (fun z => hq z.1), zshr, if_neg (fun z => hq z.1)]
theorem zshr_ne {I : zI} {d lo hi q : Nat} (h : q ≠ d) : zshr I d lo hi q = I q := by funext i; rw [zshr, if_neg (fun z => h z.1)]
theorem zshr_in {I : zI} {d lo hi i : Nat} (h : lo < i) (h2 : i ≤ hi) : zshr I d lo hi d i = I d (i - 1) := by rw [zshr, if_pos ⟨rfl, h, h2⟩]
theorem zshr_out {I : zI} {d lo hi q i : Nat} (h : i ≤ lo ∨ hi < i) : zshr I d lo hi q i = I q i := by rw [zshr, if_neg (by omega)]
/-- a row copied -/
def zcp (I : zI) (f t n : Nat) : zI := fun q i => if q = t ∧ i < n then I f i else I q i
theorem zcp_0 {I : zI} {f t : Nat} : zcp I f t 0 = I := by
  funext q i; rw [zcp, if_neg (by omega)]
theorem zcp_s {I : zI} {f t k : Nat} (h : f ≠ t) : zput (zcp I f t k) t k (zcp I f t k f k) = zcp I f t (k + 1) := by
  funext q i
  by_cases hq : q = t
  · subst hq
    by_cases hi : i = k
    · subst hi
      rw [zput_eq, zcp, if_neg (fun z => h z.1), zcp, if_pos ⟨rfl, Nat.lt_succ_self _⟩]
    · rw [zput_nj hi, zcp, zcp]
      by_cases h2 : i < k
      · rw [if_pos ⟨rfl, h2⟩, if_pos ⟨rfl, by omega⟩]
      · rw [if_neg (fun z => h2 z.2), if_neg (by omega)]
  · rw [zput_ne hq, zcp, if_neg (fun z => hq z.1), zcp, if_neg (fun z => hq z.1)]
theorem zcp_ne {I : zI} {f t n q : Nat} (h : q ≠ t) : zcp I f t n q = I q := by funext i; rw [zcp, if_neg (fun z => h z.1)]
theorem zcp_in {I : zI} {f t n i : Nat} (h : i < n) : zcp I f t n t i = I f i := by rw [zcp, if_pos ⟨rfl, h⟩]
