/-! ===== checksums, of the class and of the law's station ===== -/
/-- all numbers of a state in one -/
def sState (S : zS) : Nat → Int64
  | 0 => 0
  | k + 1 => (31 : Int64) * sState S k + (qState S k).toInt64
def sGate (S : zS) (g : Nat) (v : Int64) : Nat → Int64
  | 0 => v
  | k + 1 => (31 : Int64) * sGate S g v k + (qGate S g k).toInt64
def sLine (w : List Nat) (v : Int64) : Nat → Int64
  | 0 => v
  | k + 1 => (31 : Int64) * sLine w v k + (nI (w.getD k 0) - 1).toInt64
def sGates (S : zS) (v : Int64) : Nat → Int64
  | 0 => v
  | g + 1 => sLine (sL S g 1) (sLine (sL S g 0) (sGate S g (sGates S v g) 9) (sL S g 0).length) (sL S g 1).length
def sCard (S : zS) (c : Nat) (v : Int64) : Nat → Int64
  | 0 => v
  | k + 1 => (31 : Int64) * sCard S c v k + (qCard S c k).toInt64
def sCards (S : zS) (v : Int64) : Nat → Int64
  | 0 => v
  | c + 1 => sCard S c (sCards S v c) 7
def qSum (S : zS) : Int64 := sCards S (sGates S (sState S 16) (zng S)) (znc S)
theorem zsumP (x : Int64) {y : Nat} (h : y ≤ 12) : x + (nI y).toInt64 - 1 = x + (nI y - 1).toInt64 := by
  have e : ∀ y, y ≤ 12 → (nI y).toInt64 - 1 = (nI y - 1).toInt64 := by decide
  rw [← e y h, Int64.sub_eq_add_neg, Int64.sub_eq_add_neg, Int64.add_assoc]
abbrev zrm_X7_withLine : Room := { frames := 2, cells := 0, slots := 0, locals := 42 }
abbrev zrm_X7_checksum : Room := { frames := 5, cells := 0, slots := 0, locals := 110 }
set_option maxRecDepth 20000 in
theorem zl_X7_withLine {l : Launch} {D : va_G} {b0 : Nat} {tA : Nat → ClassId} {sa sv : Nat → Nat} {K : zKt} {I : zI} {Qp : zI → Option AV → Prop} {Xp : String → zI → Prop} {p : Program} {e : Env} {s : State} {m : MethodId} {args : Array Value} {below : List Frame} {meth : Method} {c : Code} {a : Nat} {w : List Nat} {x1 : Int64}
    (X : zX p l e zrm_X7_withLine s m args below meth c RX7 cX7_withLine 6 (some .long) D b0 tA sa sv) (hnt : ∀ x ∈ c.exceptionTable.toList, False) (hL : zLn I a w) (k1 : Qp I (some (vl (sLine w x1 w.length)))) :
    ∀ (n : Nat) (k : Nat), k ≤ w.length → w.length - k < n → zG p l e zrm_X7_withLine s m args below meth c 6 D b0 tA sa 0 0 (zQ below D b0 tA sa K args s zrm_X7_withLine Qp Xp) K 5 [some (vl (x1)), none, some (vr (a) 4), some (vl ((sLine w x1 k))), none, some (vi ((nI k)))] [] I := by
  intro n
  induction n with
  | zero => intro k i1 i9; exact absurd i9 (Nat.not_lt_zero _)
  | succ n ih =>
    intro k i1 i9
    have hl9 := hL.2.1
    refine zr_iload5 X dX7_withLine_5 ?_
    refine zr_aload2 X dX7_withLine_7 ?_
    refine zr_getI X zf_X7_154 rfl dX7_withLine_8 ?_
    refine zr_eq (x2 := (nI w.length)) (hL.1) ?_
    refine zr_nicmp_ge X (k) (w.length) (tgt := 41) (by omega) (by omega) dX7_withLine_11 (by decide) (fun h1 => ?_) (fun h1 => ?_)
    · skip
      refine zr_lload3 X dX7_withLine_41 ?_
      refine zr_lret X (by decide) (by decide) dX7_withLine_42 ?_
      have hj : k = w.length := by omega
      subst hj
      exact k1
    · skip
      refine zr_iload5 X dX7_withLine_14 ?_
      refine zr_bipush (v := (10 : Int32)) X dX7_withLine_16 (by decide) ?_
      refine zr_nicmp_ge X (k) (10) (tgt := 41) (by omega) (by omega) dX7_withLine_18 (by decide) (fun h2 => ?_) (fun h2 => ?_)
      · exact absurd h2 (by omega)
      · skip
        refine zr_ldc2 (v := 31) X dX7_withLine_21 zk_X7_270 ?_
        refine zr_lload3 X dX7_withLine_24 ?_
        refine zr_lmul X dX7_withLine_25 ?_
        refine zr_aload2 X dX7_withLine_26 ?_
        refine zr_iload5 X dX7_withLine_27 ?_
        refine zr_callV1 (rm9 := zrm_X4_cardAt) X hnt zm_X7_132 (by decide) (by decide) (by decide) (Nat.le_of_ble_eq_true rfl) dX7_withLine_29 ?_
        refine zm_X4_cardAt (w := w) hL (by omega) ?_
        refine zr_i2l X dX7_withLine_32 ?_
        refine zr_ladd X dX7_withLine_33 ?_
        refine zr_lstoreN (i := 3) X rfl (by decide) (fun k9 hk9 w9 hw9 => by obtain rfl : k9 = 2 := (by omega); cases hw9; rfl) dX7_withLine_34 ?_
        refine zr_lv (lv2 := [some (vl (x1)), none, some (vr (a) 4), some (vl ((((31 : Int64) * (sLine w x1 k)) + ((nI (w.getD k 0) - 1)).toInt64))), none, some (vi ((nI k)))]) rfl ?_
        refine zr_iinc5 (v := (nI (k + 1))) X (show nI (k) + Int32.ofInt 1 = nI (k + 1) from nI_1 (k)) (by decide) rfl dX7_withLine_35 ?_
        refine zr_goto (tgt := 5) X dX7_withLine_38 (by decide) ?_
        exact ih (k + 1) (by omega) (by omega)
set_option maxRecDepth 20000 in
theorem zp_X7_withLine {l : Launch} {D : va_G} {b0 : Nat} {tA : Nat → ClassId} {sa sv : Nat → Nat} {K : zKt} {I : zI} {Qp : zI → Option AV → Prop} {Xp : String → zI → Prop} {a : Nat} {w : List Nat} {x1 : Int64}
    (hL : zLn I a w) (k1 : Qp I (some (vl (sLine w x1 w.length)))) :
    zC l D b0 tA sa sv K yX7_withLine (.code yX7_withLine cX7_withLine 6 (some .long)) zrm_X7_withLine [vl (x1), vr (a) 4] I Qp Xp := by
  refine zC_of (by decide +kernel) (Nat.le_of_ble_eq_true rfl) ?_
  intro p e s m args below meth c X hnt
  have X : zX p l e zrm_X7_withLine s m args below meth c RX7 cX7_withLine 6 (some .long) D b0 tA sa sv := X
  refine zr_lv (lv2 := [some (vl (x1)), none, some (vr (a) 4), none, none, none]) rfl ?_
  refine zr_lload0 X dX7_withLine_0 ?_
  refine zr_lstoreN (i := 3) X rfl (by decide) (fun k9 hk9 w9 hw9 => by obtain rfl : k9 = 2 := (by omega); cases hw9; rfl) dX7_withLine_1 ?_
  refine zr_lv (lv2 := [some (vl (x1)), none, some (vr (a) 4), some (vl (x1)), none, none]) rfl ?_
  refine zr_iconst (v := (0 : Int32)) X dX7_withLine_2 (by decide) ?_
  refine zr_istore5 X (by decide) rfl dX7_withLine_3 ?_
  exact zl_X7_withLine X hnt hL k1 (w.length + 1) 0 (by omega) (by omega)
set_option maxRecDepth 20000 in
theorem zl1_X7_checksum {l : Launch} {D : va_G} {b0 : Nat} {tA : Nat → ClassId} {sa sv : Nat → Nat} {K : zKt} {I : zI} {Qp : zI → Option AV → Prop} {Xp : String → zI → Prop} {p : Program} {e : Env} {s : State} {m : MethodId} {args : Array Value} {below : List Frame} {meth : Method} {c : Code} {F9 : zI} {x f : Nat} {t : Nat → Nat} {er : Int32} {S : zS} {U : List zS}
    (X : zX p l e zrm_X7_checksum s m args below meth c RX7 cX7_checksum 5 (some .long) D b0 tA sa sv) (hnt : ∀ x ∈ c.exceptionTable.toList, False) (hC : zCl F9 I x t f er S U) (hk : zG p l e zrm_X7_checksum s m args below meth c 5 D b0 tA sa 0 0 (zQ below D b0 tA sa K args s zrm_X7_checksum Qp Xp) K 32 [some (vr (x) 7), some (vl ((sState S 16))), none, none, none] [] I) :
    ∀ (n : Nat) (k : Nat), k ≤ 16 → 16 - k < n → zG p l e zrm_X7_checksum s m args below meth c 5 D b0 tA sa 0 0 (zQ below D b0 tA sa K args s zrm_X7_checksum Qp Xp) K 4 [some (vr (x) 7), some (vl ((sState S k))), none, some (vi ((nI k))), none] [] I := by
  intro n
  induction n with
  | zero => intro k i1 i9; exact absurd i9 (Nat.not_lt_zero _)
  | succ n ih =>
    intro k i1 i9
    have hR := hC.2.2.1
    have hW := hC.2.2.2.1
    have hg6 := hW.ng.1
    have hc12 := hW.nc.1
    have hf5 := hC.1.2.1
    refine zr_iload3 X dX7_checksum_4 ?_
    refine zr_bipush (v := (16 : Int32)) X dX7_checksum_5 (by decide) ?_
    refine zr_nicmp_ge X (k) (16) (tgt := 32) (by omega) (by omega) dX7_checksum_7 (by decide) (fun h1 => ?_) (fun h1 => ?_)
    · skip
      have hj : k = 16 := by omega
      refine zr_forget (lv2 := [some (vr (x) 7), some (vl ((sState S k))), none, none, none]) (fun j9 v9 h9 => by rcases j9 with _ | _ | _ | _ | _ | _ | _ | _ | j9 <;> first | exact h9 | (simp at h9)) ?_
      subst hj
      exact hk
    · skip
      refine zr_ldc2 (v := 31) X dX7_checksum_10 zk_X7_270 ?_
      refine zr_lload1 X dX7_checksum_13 ?_
      refine zr_lmul X dX7_checksum_14 ?_
      refine zr_aload0 X dX7_checksum_15 ?_
      refine zr_getR X zf_X7_26 rfl (by decide) (by decide) dX7_checksum_16 ?_
      refine zr_iload3 X dX7_checksum_19 ?_
      refine zr_callV1 (rm9 := zrm_X5_numberOfState) X hnt zm_X7_85 (by decide) (by decide) (by decide) (Nat.le_of_ble_eq_true rfl) dX7_checksum_20 ?_
      refine zq_X5_numberOfState hR hW (by omega) ?_
      refine zr_i2l X dX7_checksum_23 ?_
      refine zr_ladd X dX7_checksum_24 ?_
      refine zr_lstoreN (i := 1) X rfl (by decide) (fun k9 hk9 w9 hw9 => by obtain rfl : k9 = 0 := (by omega); cases hw9; rfl) dX7_checksum_25 ?_
      refine zr_lv (lv2 := [some (vr (x) 7), some (vl ((((31 : Int64) * (sState S k)) + ((qState S k)).toInt64))), none, some (vi ((nI k))), none]) rfl ?_
      refine zr_iinc3 (v := (nI (k + 1))) X (show nI (k) + Int32.ofInt 1 = nI (k + 1) from nI_1 (k)) (by decide) rfl dX7_checksum_26 ?_
      refine zr_goto (tgt := 4) X dX7_checksum_29 (by decide) ?_
      refine zr_forget (lv2 := [some (vr (x) 7), some (vl ((((31 : Int64) * (sState S k)) + ((qState S k)).toInt64))), none, some (vi ((nI (k + 1)))), none]) (fun j9 v9 h9 => by rcases j9 with _ | _ | _ | _ | _ | _ | _ | _ | j9 <;> first | exact h9 | (simp at h9)) ?_
      exact ih (k + 1) (by omega) (by omega)
set_option maxRecDepth 20000 in
theorem zl2_X7_checksum {l : Launch} {D : va_G} {b0 : Nat} {tA : Nat → ClassId} {sa sv : Nat → Nat} {K : zKt} {I : zI} {Qp : zI → Option AV → Prop} {Xp : String → zI → Prop} {p : Program} {e : Env} {s : State} {m : MethodId} {args : Array Value} {below : List Frame} {meth : Method} {c : Code} {F9 : zI} {x f : Nat} {t : Nat → Nat} {er : Int32} {S : zS} {U : List zS} {j : Nat} {W : Int64}
    (X : zX p l e zrm_X7_checksum s m args below meth c RX7 cX7_checksum 5 (some .long) D b0 tA sa sv) (hnt : ∀ x ∈ c.exceptionTable.toList, False) (hC : zCl F9 I x t f er S U) (hj : j < zng S) (hk : zG p l e zrm_X7_checksum s m args below meth c 5 D b0 tA sa 0 0 (zQ below D b0 tA sa K args s zrm_X7_checksum Qp Xp) K 95 [some (vr (x) 7), some (vl ((sGate S j W 9))), none, some (vi ((nI j))), none] [] I) :
    ∀ (n : Nat) (k : Nat), k ≤ 9 → 9 - k < n → zG p l e zrm_X7_checksum s m args below meth c 5 D b0 tA sa 0 0 (zQ below D b0 tA sa K args s zrm_X7_checksum Qp Xp) K 60 [some (vr (x) 7), some (vl ((sGate S j W k))), none, some (vi ((nI j))), some (vi ((nI k)))] [] I := by
  intro n
  induction n with
  | zero => intro k i1 i9; exact absurd i9 (Nat.not_lt_zero _)
  | succ n ih =>
    intro k i1 i9
    have hR := hC.2.2.1
    have hW := hC.2.2.2.1
    have hg6 := hW.ng.1
    have hc12 := hW.nc.1
    have hf5 := hC.1.2.1
    refine zr_iload4 X dX7_checksum_60 ?_
    refine zr_bipush (v := (9 : Int32)) X dX7_checksum_62 (by decide) ?_
    refine zr_nicmp_ge X (k) (9) (tgt := 95) (by omega) (by omega) dX7_checksum_64 (by decide) (fun h1 => ?_) (fun h1 => ?_)
    · skip
      have hj : k = 9 := by omega
      refine zr_forget (lv2 := [some (vr (x) 7), some (vl ((sGate S j W k))), none, some (vi ((nI j))), none]) (fun j9 v9 h9 => by rcases j9 with _ | _ | _ | _ | _ | _ | _ | _ | j9 <;> first | exact h9 | (simp at h9)) ?_
      subst hj
      exact hk
    · skip
      refine zr_ldc2 (v := 31) X dX7_checksum_67 zk_X7_270 ?_
      refine zr_lload1 X dX7_checksum_70 ?_
      refine zr_lmul X dX7_checksum_71 ?_
      refine zr_aload0 X dX7_checksum_72 ?_
      refine zr_getR X zf_X7_26 rfl (by decide) (by decide) dX7_checksum_73 ?_
      refine zr_getR X zf_X7_98 rfl (by decide) (by decide) dX7_checksum_76 ?_
      refine zr_iload3 X dX7_checksum_79 ?_
      refine zr_aaldN X rfl rfl (by decide) (show _ < 6 from (by first | assumption | omega)) dX7_checksum_80 ?_
      refine zr_iload4 X dX7_checksum_81 ?_
      refine zr_callV1 (rm9 := zrm_X1_numberOfGate) X hnt zm_X7_102 (by decide) (by decide) (by decide) (Nat.le_of_ble_eq_true rfl) dX7_checksum_83 ?_
      refine zq_X1_numberOfGate (g := j) hR (by omega) (by omega) ?_
      refine zr_i2l X dX7_checksum_86 ?_
      refine zr_ladd X dX7_checksum_87 ?_
      refine zr_lstoreN (i := 1) X rfl (by decide) (fun k9 hk9 w9 hw9 => by obtain rfl : k9 = 0 := (by omega); cases hw9; rfl) dX7_checksum_88 ?_
      refine zr_lv (lv2 := [some (vr (x) 7), some (vl ((((31 : Int64) * (sGate S j W k)) + ((qGate S j k)).toInt64))), none, some (vi ((nI j))), some (vi ((nI k)))]) rfl ?_
      refine zr_iinc4 (v := (nI (k + 1))) X (show nI (k) + Int32.ofInt 1 = nI (k + 1) from nI_1 (k)) (by decide) rfl dX7_checksum_89 ?_
      refine zr_goto (tgt := 60) X dX7_checksum_92 (by decide) ?_
      refine zr_forget (lv2 := [some (vr (x) 7), some (vl ((((31 : Int64) * (sGate S j W k)) + ((qGate S j k)).toInt64))), none, some (vi ((nI j))), some (vi ((nI (k + 1))))]) (fun j9 v9 h9 => by rcases j9 with _ | _ | _ | _ | _ | _ | _ | _ | j9 <;> first | exact h9 | (simp at h9)) ?_
      exact ih (k + 1) (by omega) (by omega)
set_option maxRecDepth 20000 in
theorem zl3_X7_checksum {l : Launch} {D : va_G} {b0 : Nat} {tA : Nat → ClassId} {sa sv : Nat → Nat} {K : zKt} {I : zI} {Qp : zI → Option AV → Prop} {Xp : String → zI → Prop} {p : Program} {e : Env} {s : State} {m : MethodId} {args : Array Value} {below : List Frame} {meth : Method} {c : Code} {F9 : zI} {x f : Nat} {t : Nat → Nat} {er : Int32} {S : zS} {U : List zS} {j : Nat} {W : Int64}
    (X : zX p l e zrm_X7_checksum s m args below meth c RX7 cX7_checksum 5 (some .long) D b0 tA sa sv) (hnt : ∀ x ∈ c.exceptionTable.toList, False) (hC : zCl F9 I x t f er S U) (hj : j < znc S) (hk : zG p l e zrm_X7_checksum s m args below meth c 5 D b0 tA sa 0 0 (zQ below D b0 tA sa K args s zrm_X7_checksum Qp Xp) K 194 [some (vr (x) 7), some (vl ((sCard S j W 7))), none, some (vi ((nI j))), none] [] I) :
    ∀ (n : Nat) (k : Nat), k ≤ 7 → 7 - k < n → zG p l e zrm_X7_checksum s m args below meth c 5 D b0 tA sa 0 0 (zQ below D b0 tA sa K args s zrm_X7_checksum Qp Xp) K 163 [some (vr (x) 7), some (vl ((sCard S j W k))), none, some (vi ((nI j))), some (vi ((nI k)))] [] I := by
  intro n
  induction n with
  | zero => intro k i1 i9; exact absurd i9 (Nat.not_lt_zero _)
  | succ n ih =>
    intro k i1 i9
    have hR := hC.2.2.1
    have hW := hC.2.2.2.1
    have hg6 := hW.ng.1
    have hc12 := hW.nc.1
    have hf5 := hC.1.2.1
    refine zr_iload4 X dX7_checksum_163 ?_
    refine zr_bipush (v := (7 : Int32)) X dX7_checksum_165 (by decide) ?_
    refine zr_nicmp_ge X (k) (7) (tgt := 194) (by omega) (by omega) dX7_checksum_167 (by decide) (fun h1 => ?_) (fun h1 => ?_)
    · skip
      have hj : k = 7 := by omega
      refine zr_forget (lv2 := [some (vr (x) 7), some (vl ((sCard S j W k))), none, some (vi ((nI j))), none]) (fun j9 v9 h9 => by rcases j9 with _ | _ | _ | _ | _ | _ | _ | _ | j9 <;> first | exact h9 | (simp at h9)) ?_
      subst hj
      exact hk
    · skip
      refine zr_ldc2 (v := 31) X dX7_checksum_170 zk_X7_270 ?_
      refine zr_lload1 X dX7_checksum_173 ?_
      refine zr_lmul X dX7_checksum_174 ?_
      refine zr_aload0 X dX7_checksum_175 ?_
      refine zr_getR X zf_X7_26 rfl (by decide) (by decide) dX7_checksum_176 ?_
      refine zr_iload3 X dX7_checksum_179 ?_
      refine zr_iload4 X dX7_checksum_180 ?_
      refine zr_callV2 (rm9 := zrm_X5_numberOfCard) X hnt zm_X7_110 (by decide) (by decide) (by decide) (Nat.le_of_ble_eq_true rfl) dX7_checksum_182 ?_
      refine zq_X5_numberOfCard hR hW (by omega) (by omega) ?_
      refine zr_i2l X dX7_checksum_185 ?_
      refine zr_ladd X dX7_checksum_186 ?_
      refine zr_lstoreN (i := 1) X rfl (by decide) (fun k9 hk9 w9 hw9 => by obtain rfl : k9 = 0 := (by omega); cases hw9; rfl) dX7_checksum_187 ?_
      refine zr_lv (lv2 := [some (vr (x) 7), some (vl ((((31 : Int64) * (sCard S j W k)) + ((qCard S j k)).toInt64))), none, some (vi ((nI j))), some (vi ((nI k)))]) rfl ?_
      refine zr_iinc4 (v := (nI (k + 1))) X (show nI (k) + Int32.ofInt 1 = nI (k + 1) from nI_1 (k)) (by decide) rfl dX7_checksum_188 ?_
      refine zr_goto (tgt := 163) X dX7_checksum_191 (by decide) ?_
      refine zr_forget (lv2 := [some (vr (x) 7), some (vl ((((31 : Int64) * (sCard S j W k)) + ((qCard S j k)).toInt64))), none, some (vi ((nI j))), some (vi ((nI (k + 1))))]) (fun j9 v9 h9 => by rcases j9 with _ | _ | _ | _ | _ | _ | _ | _ | j9 <;> first | exact h9 | (simp at h9)) ?_
      exact ih (k + 1) (by omega) (by omega)
set_option maxRecDepth 20000 in
theorem zlg_X7_checksum {l : Launch} {D : va_G} {b0 : Nat} {tA : Nat → ClassId} {sa sv : Nat → Nat} {K : zKt} {I : zI} {Qp : zI → Option AV → Prop} {Xp : String → zI → Prop} {p : Program} {e : Env} {s : State} {m : MethodId} {args : Array Value} {below : List Frame} {meth : Method} {c : Code} {F9 : zI} {x f : Nat} {t : Nat → Nat} {er : Int32} {S : zS} {U : List zS}
    (X : zX p l e zrm_X7_checksum s m args below meth c RX7 cX7_checksum 5 (some .long) D b0 tA sa sv) (hnt : ∀ x ∈ c.exceptionTable.toList, False) (hC : zCl F9 I x t f er S U) (hk : zG p l e zrm_X7_checksum s m args below meth c 5 D b0 tA sa 0 0 (zQ below D b0 tA sa K args s zrm_X7_checksum Qp Xp) K 135 [some (vr (x) 7), some (vl ((sGates S (sState S 16) (zng S)))), none, none, none] [] I) :
    ∀ (n : Nat) (j : Nat), j ≤ zng S → zng S - j < n → zG p l e zrm_X7_checksum s m args below meth c 5 D b0 tA sa 0 0 (zQ below D b0 tA sa K args s zrm_X7_checksum Qp Xp) K 34 [some (vr (x) 7), some (vl ((sGates S (sState S 16) j))), none, some (vi ((nI j))), none] [] I := by
  intro n
  induction n with
  | zero => intro j i1 i9; exact absurd i9 (Nat.not_lt_zero _)
  | succ n ih =>
    intro j i1 i9
    have hR := hC.2.2.1
    have hW := hC.2.2.2.1
    have hg6 := hW.ng.1
    have hc12 := hW.nc.1
    have hf5 := hC.1.2.1
    refine zr_iload3 X dX7_checksum_34 ?_
    refine zr_aload0 X dX7_checksum_35 ?_
    refine zr_getR X zf_X7_26 rfl (by decide) (by decide) dX7_checksum_36 ?_
    refine zr_getI X zf_X7_75 rfl dX7_checksum_39 ?_
    refine zr_eq (x2 := (sX S 4)) (hR.1 4 (by decide) (by decide)) ?_
    refine zr_eq (x2 := (nI (zng S))) (hW.ng.2) ?_
    refine zr_nicmp_ge X (j) ((zng S)) (tgt := 135) (by omega) (by omega) dX7_checksum_42 (by decide) (fun h1 => ?_) (fun h1 => ?_)
    · skip
      have hj : j = zng S := by omega
      refine zr_forget (lv2 := [some (vr (x) 7), some (vl ((sGates S (sState S 16) j))), none, none, none]) (fun j9 v9 h9 => by rcases j9 with _ | _ | _ | _ | _ | _ | _ | _ | j9 <;> first | exact h9 | (simp at h9)) ?_
      subst hj
      exact hk
    · skip
      refine zr_iload3 X dX7_checksum_45 ?_
      refine zr_aload0 X dX7_checksum_46 ?_
      refine zr_getR X zf_X7_26 rfl (by decide) (by decide) dX7_checksum_47 ?_
      refine zr_getR X zf_X7_98 rfl (by decide) (by decide) dX7_checksum_50 ?_
      refine zr_alen (v := 6) X (Or.inr (Or.inl rfl)) rfl dX7_checksum_53 ?_
      refine zr_nicmp_ge X (j) (6) (tgt := 135) (by omega) (by omega) dX7_checksum_54 (by decide) (fun h2 => ?_) (fun h2 => ?_)
      · exact absurd h2 (by omega)
      · skip
        refine zr_iconst (v := (0 : Int32)) X dX7_checksum_57 (by decide) ?_
        refine zr_istore4 X (by decide) rfl dX7_checksum_58 ?_
        refine zl2_X7_checksum X hnt hC (j := j) (W := (sGates S (sState S 16) j)) (by omega) ?_ 10 0 (by omega) (by omega)
        refine zr_lload1 X dX7_checksum_95 ?_
        refine zr_aload0 X dX7_checksum_96 ?_
        refine zr_getR X zf_X7_26 rfl (by decide) (by decide) dX7_checksum_97 ?_
        refine zr_getR X zf_X7_98 rfl (by decide) (by decide) dX7_checksum_100 ?_
        refine zr_iload3 X dX7_checksum_103 ?_
        refine zr_aaldN X rfl rfl (by decide) (show _ < 6 from (by first | assumption | omega)) dX7_checksum_104 ?_
        refine zr_getR X zf_X7_272 rfl (by decide) (by decide) dX7_checksum_105 ?_
        refine zr_callS2 (rm9 := zrm_X7_withLine) X hnt zm_X7_275 (by decide) (by decide) (by decide) (Nat.le_of_ble_eq_true rfl) dX7_checksum_108 ?_
        refine zp_X7_withLine (w := (sL S j 0)) (hR.2.2.1 j (by omega)).2.1 ?_
        refine zr_lstoreN (i := 1) X rfl (by decide) (fun k9 hk9 w9 hw9 => by obtain rfl : k9 = 0 := (by omega); cases hw9; rfl) dX7_checksum_111 ?_
        refine zr_lv (lv2 := [some (vr (x) 7), some (vl ((sLine (sL S j 0) (sGate S j (sGates S (sState S 16) j) 9) ((sL S j 0)).length))), none, some (vi ((nI j))), none]) rfl ?_
        refine zr_lload1 X dX7_checksum_112 ?_
        refine zr_aload0 X dX7_checksum_113 ?_
        refine zr_getR X zf_X7_26 rfl (by decide) (by decide) dX7_checksum_114 ?_
        refine zr_getR X zf_X7_98 rfl (by decide) (by decide) dX7_checksum_117 ?_
        refine zr_iload3 X dX7_checksum_120 ?_
        refine zr_aaldN X rfl rfl (by decide) (show _ < 6 from (by first | assumption | omega)) dX7_checksum_121 ?_
        refine zr_getR X zf_X7_180 rfl (by decide) (by decide) dX7_checksum_122 ?_
        refine zr_callS2 (rm9 := zrm_X7_withLine) X hnt zm_X7_275 (by decide) (by decide) (by decide) (Nat.le_of_ble_eq_true rfl) dX7_checksum_125 ?_
        refine zp_X7_withLine (w := (sL S j 1)) (hR.2.2.1 j (by omega)).2.2 ?_
        refine zr_lstoreN (i := 1) X rfl (by decide) (fun k9 hk9 w9 hw9 => by obtain rfl : k9 = 0 := (by omega); cases hw9; rfl) dX7_checksum_128 ?_
        refine zr_lv (lv2 := [some (vr (x) 7), some (vl ((sLine (sL S j 1) (sLine (sL S j 0) (sGate S j (sGates S (sState S 16) j) 9) ((sL S j 0)).length) ((sL S j 1)).length))), none, some (vi ((nI j))), none]) rfl ?_
        refine zr_iinc3 (v := (nI (j + 1))) X (show nI (j) + Int32.ofInt 1 = nI (j + 1) from nI_1 (j)) (by decide) rfl dX7_checksum_129 ?_
        refine zr_goto (tgt := 34) X dX7_checksum_132 (by decide) ?_
        refine zr_forget (lv2 := [some (vr (x) 7), some (vl ((sLine (sL S j 1) (sLine (sL S j 0) (sGate S j (sGates S (sState S 16) j) 9) ((sL S j 0)).length) ((sL S j 1)).length))), none, some (vi ((nI (j + 1)))), none]) (fun j9 v9 h9 => by rcases j9 with _ | _ | _ | _ | _ | _ | _ | _ | j9 <;> first | exact h9 | (simp at h9)) ?_
        exact ih (j + 1) (by omega) (by omega)
set_option maxRecDepth 20000 in
theorem zlc_X7_checksum {l : Launch} {D : va_G} {b0 : Nat} {tA : Nat → ClassId} {sa sv : Nat → Nat} {K : zKt} {I : zI} {Qp : zI → Option AV → Prop} {Xp : String → zI → Prop} {p : Program} {e : Env} {s : State} {m : MethodId} {args : Array Value} {below : List Frame} {meth : Method} {c : Code} {F9 : zI} {x f : Nat} {t : Nat → Nat} {er : Int32} {S : zS} {U : List zS}
    (X : zX p l e zrm_X7_checksum s m args below meth c RX7 cX7_checksum 5 (some .long) D b0 tA sa sv) (hnt : ∀ x ∈ c.exceptionTable.toList, False) (hC : zCl F9 I x t f er S U) (hk : zG p l e zrm_X7_checksum s m args below meth c 5 D b0 tA sa 0 0 (zQ below D b0 tA sa K args s zrm_X7_checksum Qp Xp) K 200 [some (vr (x) 7), some (vl ((sCards S (sGates S (sState S 16) (zng S)) (znc S)))), none, none, none] [] I) :
    ∀ (n : Nat) (j : Nat), j ≤ znc S → znc S - j < n → zG p l e zrm_X7_checksum s m args below meth c 5 D b0 tA sa 0 0 (zQ below D b0 tA sa K args s zrm_X7_checksum Qp Xp) K 137 [some (vr (x) 7), some (vl ((sCards S (sGates S (sState S 16) (zng S)) j))), none, some (vi ((nI j))), none] [] I := by
  intro n
  induction n with
  | zero => intro j i1 i9; exact absurd i9 (Nat.not_lt_zero _)
  | succ n ih =>
    intro j i1 i9
    have hR := hC.2.2.1
    have hW := hC.2.2.2.1
    have hg6 := hW.ng.1
    have hc12 := hW.nc.1
    have hf5 := hC.1.2.1
    refine zr_iload3 X dX7_checksum_137 ?_
    refine zr_aload0 X dX7_checksum_138 ?_
    refine zr_getR X zf_X7_26 rfl (by decide) (by decide) dX7_checksum_139 ?_
    refine zr_getI X zf_X7_279 rfl dX7_checksum_142 ?_
    refine zr_eq (x2 := (sX S 5)) (hR.1 5 (by decide) (by decide)) ?_
    refine zr_eq (x2 := (nI (znc S))) (hW.nc.2) ?_
    refine zr_nicmp_ge X (j) ((znc S)) (tgt := 200) (by omega) (by omega) dX7_checksum_145 (by decide) (fun h1 => ?_) (fun h1 => ?_)
    · skip
      have hj : j = znc S := by omega
      refine zr_forget (lv2 := [some (vr (x) 7), some (vl ((sCards S (sGates S (sState S 16) (zng S)) j))), none, none, none]) (fun j9 v9 h9 => by rcases j9 with _ | _ | _ | _ | _ | _ | _ | _ | j9 <;> first | exact h9 | (simp at h9)) ?_
      subst hj
      exact hk
    · skip
      refine zr_iload3 X dX7_checksum_148 ?_
      refine zr_aload0 X dX7_checksum_149 ?_
      refine zr_getR X zf_X7_26 rfl (by decide) (by decide) dX7_checksum_150 ?_
      refine zr_getR X zf_X7_135 rfl (by decide) (by decide) dX7_checksum_153 ?_
      refine zr_alen (v := 12) X (Or.inr (Or.inl rfl)) rfl dX7_checksum_156 ?_
      refine zr_nicmp_ge X (j) (12) (tgt := 200) (by omega) (by omega) dX7_checksum_157 (by decide) (fun h2 => ?_) (fun h2 => ?_)
      · exact absurd h2 (by omega)
      · skip
        refine zr_iconst (v := (0 : Int32)) X dX7_checksum_160 (by decide) ?_
        refine zr_istore4 X (by decide) rfl dX7_checksum_161 ?_
        refine zl3_X7_checksum X hnt hC (j := j) (W := (sCards S (sGates S (sState S 16) (zng S)) j)) (by omega) ?_ 8 0 (by omega) (by omega)
        refine zr_iinc3 (v := (nI (j + 1))) X (show nI (j) + Int32.ofInt 1 = nI (j + 1) from nI_1 (j)) (by decide) rfl dX7_checksum_194 ?_
        refine zr_goto (tgt := 137) X dX7_checksum_197 (by decide) ?_
        refine zr_forget (lv2 := [some (vr (x) 7), some (vl ((sCard S j (sCards S (sGates S (sState S 16) (zng S)) j) 7))), none, some (vi ((nI (j + 1)))), none]) (fun j9 v9 h9 => by rcases j9 with _ | _ | _ | _ | _ | _ | _ | _ | j9 <;> first | exact h9 | (simp at h9)) ?_
        exact ih (j + 1) (by omega) (by omega)
set_option maxRecDepth 20000 in
theorem zq_X7_checksum {l : Launch} {D : va_G} {b0 : Nat} {tA : Nat → ClassId} {sa sv : Nat → Nat} {K : zKt} {I : zI} {Qp : zI → Option AV → Prop} {Xp : String → zI → Prop} {F9 : zI} {x f : Nat} {t : Nat → Nat} {er : Int32} {S : zS} {U : List zS}
    (hC : zCl F9 I x t f er S U) (k1 : Qp I (some (vl (qSum S)))) :
    zC l D b0 tA sa sv K yX7_checksum (.code yX7_checksum cX7_checksum 5 (some .long)) zrm_X7_checksum [vr (x) 7] I Qp Xp := by
  have hR := hC.2.2.1
  have hW := hC.2.2.2.1
  have hg6 := hW.ng.1
  have hc12 := hW.nc.1
  have hf5 := hC.1.2.1
  refine zC_of (by decide +kernel) (Nat.le_of_ble_eq_true rfl) ?_
  intro p e s m args below meth c X hnt
  have X : zX p l e zrm_X7_checksum s m args below meth c RX7 cX7_checksum 5 (some .long) D b0 tA sa sv := X
  refine zr_lv (lv2 := [some (vr (x) 7), none, none, none, none]) rfl ?_
  refine zr_lconst (v := (0 : Int64)) X dX7_checksum_0 (by decide) ?_
  refine zr_lstoreN (i := 1) X rfl (by decide) (fun k9 hk9 w9 hw9 => by obtain rfl : k9 = 0 := (by omega); cases hw9; rfl) dX7_checksum_1 ?_
  refine zr_lv (lv2 := [some (vr (x) 7), some (vl ((0 : Int64))), none, none, none]) rfl ?_
  refine zr_iconst (v := (0 : Int32)) X dX7_checksum_2 (by decide) ?_
  refine zr_istore3 X (by decide) rfl dX7_checksum_3 ?_
  refine zl1_X7_checksum X hnt hC ?_ 17 0 (by omega) (by omega)
  refine zr_iconst (v := (0 : Int32)) X dX7_checksum_32 (by decide) ?_
  refine zr_istore3 X (by decide) rfl dX7_checksum_33 ?_
  refine zr_forget (lv2 := [some (vr (x) 7), some (vl ((sState S 16))), none, some (vi ((0 : Int32))), none]) (fun j9 v9 h9 => by rcases j9 with _ | _ | _ | _ | _ | _ | _ | _ | j9 <;> first | exact h9 | (simp at h9)) ?_
  refine zlg_X7_checksum X hnt hC ?_ (zng S + 1) 0 (by omega) (by omega)
  refine zr_iconst (v := (0 : Int32)) X dX7_checksum_135 (by decide) ?_
  refine zr_istore3 X (by decide) rfl dX7_checksum_136 ?_
  refine zr_forget (lv2 := [some (vr (x) 7), some (vl ((sGates S (sState S 16) (zng S)))), none, some (vi ((0 : Int32))), none]) (fun j9 v9 h9 => by rcases j9 with _ | _ | _ | _ | _ | _ | _ | _ | j9 <;> first | exact h9 | (simp at h9)) ?_
  refine zlc_X7_checksum X hnt hC ?_ (znc S + 1) 0 (by omega) (by omega)
  refine zr_lload1 X dX7_checksum_200 ?_
  refine zr_lret X (by decide) (by decide) dX7_checksum_201 ?_
  exact k1
abbrev zrm_X12_checksum : Room := { frames := 3, cells := 0, slots := 0, locals := 68 }
set_option maxRecDepth 20000 in
theorem zl1_X12_checksum {l : Launch} {D : va_G} {b0 : Nat} {tA : Nat → ClassId} {sa sv : Nat → Nat} {K : zKt} {I : zI} {Qp : zI → Option AV → Prop} {Xp : String → zI → Prop} {p : Program} {e : Env} {s : State} {m : MethodId} {args : Array Value} {below : List Frame} {meth : Method} {c : Code} {A : Nat → Nat} {n7 m7 : Nat} {S : zS}
    (X : zX p l e zrm_X12_checksum s m args below meth c RX12 cX12_checksum 6 (some .long) D b0 tA sa sv) (hnt : ∀ x ∈ c.exceptionTable.toList, False) (hS : zSh K A n7 m7) (hM : zSt I A n7 m7 S) (hW : zWf S) (hk : zG p l e zrm_X12_checksum s m args below meth c 6 D b0 tA sa 0 0 (zQ below D b0 tA sa K args s zrm_X12_checksum Qp Xp) K 29 [some (vr (A (0)) 17), some (vl ((sState S 16))), none, none, none, none] [] I) :
    ∀ (n : Nat) (k : Nat), k ≤ 16 → 16 - k < n → zG p l e zrm_X12_checksum s m args below meth c 6 D b0 tA sa 0 0 (zQ below D b0 tA sa K args s zrm_X12_checksum Qp Xp) K 4 [some (vr (A (0)) 17), some (vl ((sState S k))), none, some (vi ((nI k))), none, none] [] I := by
  intro n
  induction n with
  | zero => intro k i1 i9; exact absurd i9 (Nat.not_lt_zero _)
  | succ n ih =>
    intro k i1 i9
    have hA := hS.1
    have hn6 := hM.1.1
    have hm12 := hM.1.2
    have hgn := hM.ng
    have hcm := hM.nc
    have hlen := hW.len
    refine zr_iload3 X dX12_checksum_4 ?_
    refine zr_bipush (v := (16 : Int32)) X dX12_checksum_5 (by decide) ?_
    refine zr_nicmp_ge X (k) (16) (tgt := 29) (by omega) (by omega) dX12_checksum_7 (by decide) (fun h1 => ?_) (fun h1 => ?_)
    · skip
      have hj : k = 16 := by omega
      refine zr_forget (lv2 := [some (vr (A (0)) 17), some (vl ((sState S k))), none, none, none, none]) (fun j9 v9 h9 => by rcases j9 with _ | _ | _ | _ | _ | _ | _ | _ | j9 <;> first | exact h9 | (simp at h9)) ?_
      subst hj
      exact hk
    · skip
      refine zr_ldc2 (v := 31) X dX12_checksum_10 zk_X12_177 ?_
      refine zr_lload1 X dX12_checksum_13 ?_
      refine zr_lmul X dX12_checksum_14 ?_
      refine zr_aload0 X dX12_checksum_15 ?_
      refine zr_iload3 X dX12_checksum_16 ?_
      refine zr_callV1 (rm9 := zrm_X12_told) X hnt zm_X12_179 (by decide) (by decide) (by decide) (Nat.le_of_ble_eq_true rfl) dX12_checksum_17 ?_
      refine zq_X12_told (w9 := k) hS hM hW (by omega) ?_
      refine zr_i2l X dX12_checksum_20 ?_
      refine zr_ladd X dX12_checksum_21 ?_
      refine zr_lstoreN (i := 1) X rfl (by decide) (fun k9 hk9 w9 hw9 => by obtain rfl : k9 = 0 := (by omega); cases hw9; rfl) dX12_checksum_22 ?_
      refine zr_lv (lv2 := [some (vr (A (0)) 17), some (vl ((((31 : Int64) * (sState S k)) + ((qState S k)).toInt64))), none, some (vi ((nI k))), none, none]) rfl ?_
      refine zr_iinc3 (v := (nI (k + 1))) X (show nI (k) + Int32.ofInt 1 = nI (k + 1) from nI_1 (k)) (by decide) rfl dX12_checksum_23 ?_
      refine zr_goto (tgt := 4) X dX12_checksum_26 (by decide) ?_
      refine zr_forget (lv2 := [some (vr (A (0)) 17), some (vl ((((31 : Int64) * (sState S k)) + ((qState S k)).toInt64))), none, some (vi ((nI (k + 1)))), none, none]) (fun j9 v9 h9 => by rcases j9 with _ | _ | _ | _ | _ | _ | _ | _ | j9 <;> first | exact h9 | (simp at h9)) ?_
      exact ih (k + 1) (by omega) (by omega)
set_option maxRecDepth 20000 in
theorem zl2_X12_checksum {l : Launch} {D : va_G} {b0 : Nat} {tA : Nat → ClassId} {sa sv : Nat → Nat} {K : zKt} {I : zI} {Qp : zI → Option AV → Prop} {Xp : String → zI → Prop} {p : Program} {e : Env} {s : State} {m : MethodId} {args : Array Value} {below : List Frame} {meth : Method} {c : Code} {A : Nat → Nat} {n7 m7 : Nat} {S : zS} {j : Nat} {W : Int64}
    (X : zX p l e zrm_X12_checksum s m args below meth c RX12 cX12_checksum 6 (some .long) D b0 tA sa sv) (hnt : ∀ x ∈ c.exceptionTable.toList, False) (hS : zSh K A n7 m7) (hM : zSt I A n7 m7 S) (hW : zWf S) (hj : j < n7) (hk : zG p l e zrm_X12_checksum s m args below meth c 6 D b0 tA sa 0 0 (zQ below D b0 tA sa K args s zrm_X12_checksum Qp Xp) K 70 [some (vr (A (0)) 17), some (vl ((sGate S j W 9))), none, some (vi ((nI j))), none, none] [] I) :
    ∀ (n : Nat) (k : Nat), k ≤ 9 → 9 - k < n → zG p l e zrm_X12_checksum s m args below meth c 6 D b0 tA sa 0 0 (zQ below D b0 tA sa K args s zrm_X12_checksum Qp Xp) K 42 [some (vr (A (0)) 17), some (vl ((sGate S j W k))), none, some (vi ((nI j))), some (vi ((nI k))), none] [] I := by
  intro n
  induction n with
  | zero => intro k i1 i9; exact absurd i9 (Nat.not_lt_zero _)
  | succ n ih =>
    intro k i1 i9
    have hA := hS.1
    have hn6 := hM.1.1
    have hm12 := hM.1.2
    have hgn := hM.ng
    have hcm := hM.nc
    have hlen := hW.len
    refine zr_iload4 X dX12_checksum_42 ?_
    refine zr_bipush (v := (9 : Int32)) X dX12_checksum_44 (by decide) ?_
    refine zr_nicmp_ge X (k) (9) (tgt := 70) (by omega) (by omega) dX12_checksum_46 (by decide) (fun h1 => ?_) (fun h1 => ?_)
    · skip
      have hj : k = 9 := by omega
      refine zr_forget (lv2 := [some (vr (A (0)) 17), some (vl ((sGate S j W k))), none, some (vi ((nI j))), none, none]) (fun j9 v9 h9 => by rcases j9 with _ | _ | _ | _ | _ | _ | _ | _ | j9 <;> first | exact h9 | (simp at h9)) ?_
      subst hj
      exact hk
    · skip
      refine zr_ldc2 (v := 31) X dX12_checksum_49 zk_X12_177 ?_
      refine zr_lload1 X dX12_checksum_52 ?_
      refine zr_lmul X dX12_checksum_53 ?_
      refine zr_aload0 X dX12_checksum_54 ?_
      refine zr_iload3 X dX12_checksum_55 ?_
      refine zr_iload4 X dX12_checksum_56 ?_
      refine zr_callV2 (rm9 := zrm_X12_ofGate) X hnt zm_X12_182 (by decide) (by decide) (by decide) (Nat.le_of_ble_eq_true rfl) dX12_checksum_58 ?_
      refine zq_X12_ofGate (g := j) (w9 := k) hS hM (by omega) (by omega) ?_
      refine zr_i2l X dX12_checksum_61 ?_
      refine zr_ladd X dX12_checksum_62 ?_
      refine zr_lstoreN (i := 1) X rfl (by decide) (fun k9 hk9 w9 hw9 => by obtain rfl : k9 = 0 := (by omega); cases hw9; rfl) dX12_checksum_63 ?_
      refine zr_lv (lv2 := [some (vr (A (0)) 17), some (vl ((((31 : Int64) * (sGate S j W k)) + ((qGate S j k)).toInt64))), none, some (vi ((nI j))), some (vi ((nI k))), none]) rfl ?_
      refine zr_iinc4 (v := (nI (k + 1))) X (show nI (k) + Int32.ofInt 1 = nI (k + 1) from nI_1 (k)) (by decide) rfl dX12_checksum_64 ?_
      refine zr_goto (tgt := 42) X dX12_checksum_67 (by decide) ?_
      refine zr_forget (lv2 := [some (vr (A (0)) 17), some (vl ((((31 : Int64) * (sGate S j W k)) + ((qGate S j k)).toInt64))), none, some (vi ((nI j))), some (vi ((nI (k + 1)))), none]) (fun j9 v9 h9 => by rcases j9 with _ | _ | _ | _ | _ | _ | _ | _ | j9 <;> first | exact h9 | (simp at h9)) ?_
      exact ih (k + 1) (by omega) (by omega)
set_option maxRecDepth 20000 in
theorem zl3_X12_checksum {l : Launch} {D : va_G} {b0 : Nat} {tA : Nat → ClassId} {sa sv : Nat → Nat} {K : zKt} {I : zI} {Qp : zI → Option AV → Prop} {Xp : String → zI → Prop} {p : Program} {e : Env} {s : State} {m : MethodId} {args : Array Value} {below : List Frame} {meth : Method} {c : Code} {A : Nat → Nat} {n7 m7 : Nat} {S : zS} {j : Nat} {W : Int64}
    (X : zX p l e zrm_X12_checksum s m args below meth c RX12 cX12_checksum 6 (some .long) D b0 tA sa sv) (hnt : ∀ x ∈ c.exceptionTable.toList, False) (hS : zSh K A n7 m7) (hM : zSt I A n7 m7 S) (hW : zWf S) (hj : j < m7) (hk : zG p l e zrm_X12_checksum s m args below meth c 6 D b0 tA sa 0 0 (zQ below D b0 tA sa K args s zrm_X12_checksum Qp Xp) K 185 [some (vr (A (0)) 17), some (vl ((sCard S j W 7))), none, some (vi ((nI j))), none, none] [] I) :
    ∀ (n : Nat) (k : Nat), k ≤ 7 → 7 - k < n → zG p l e zrm_X12_checksum s m args below meth c 6 D b0 tA sa 0 0 (zQ below D b0 tA sa K args s zrm_X12_checksum Qp Xp) K 157 [some (vr (A (0)) 17), some (vl ((sCard S j W k))), none, some (vi ((nI j))), some (vi ((nI k))), none] [] I := by
  intro n
  induction n with
  | zero => intro k i1 i9; exact absurd i9 (Nat.not_lt_zero _)
  | succ n ih =>
    intro k i1 i9
    have hA := hS.1
    have hn6 := hM.1.1
    have hm12 := hM.1.2
    have hgn := hM.ng
    have hcm := hM.nc
    have hlen := hW.len
    refine zr_iload4 X dX12_checksum_157 ?_
    refine zr_bipush (v := (7 : Int32)) X dX12_checksum_159 (by decide) ?_
    refine zr_nicmp_ge X (k) (7) (tgt := 185) (by omega) (by omega) dX12_checksum_161 (by decide) (fun h1 => ?_) (fun h1 => ?_)
    · skip
      have hj : k = 7 := by omega
      refine zr_forget (lv2 := [some (vr (A (0)) 17), some (vl ((sCard S j W k))), none, some (vi ((nI j))), none, none]) (fun j9 v9 h9 => by rcases j9 with _ | _ | _ | _ | _ | _ | _ | _ | j9 <;> first | exact h9 | (simp at h9)) ?_
      subst hj
      exact hk
    · skip
      refine zr_ldc2 (v := 31) X dX12_checksum_164 zk_X12_177 ?_
      refine zr_lload1 X dX12_checksum_167 ?_
      refine zr_lmul X dX12_checksum_168 ?_
      refine zr_aload0 X dX12_checksum_169 ?_
      refine zr_iload3 X dX12_checksum_170 ?_
      refine zr_iload4 X dX12_checksum_171 ?_
      refine zr_callV2 (rm9 := zrm_X12_ofCard) X hnt zm_X12_185 (by decide) (by decide) (by decide) (Nat.le_of_ble_eq_true rfl) dX12_checksum_173 ?_
      refine zq_X12_ofCard (c9 := j) (w9 := k) hS hM hW (by omega) (by omega) ?_
      refine zr_i2l X dX12_checksum_176 ?_
      refine zr_ladd X dX12_checksum_177 ?_
      refine zr_lstoreN (i := 1) X rfl (by decide) (fun k9 hk9 w9 hw9 => by obtain rfl : k9 = 0 := (by omega); cases hw9; rfl) dX12_checksum_178 ?_
      refine zr_lv (lv2 := [some (vr (A (0)) 17), some (vl ((((31 : Int64) * (sCard S j W k)) + ((qCard S j k)).toInt64))), none, some (vi ((nI j))), some (vi ((nI k))), none]) rfl ?_
      refine zr_iinc4 (v := (nI (k + 1))) X (show nI (k) + Int32.ofInt 1 = nI (k + 1) from nI_1 (k)) (by decide) rfl dX12_checksum_179 ?_
      refine zr_goto (tgt := 157) X dX12_checksum_182 (by decide) ?_
      refine zr_forget (lv2 := [some (vr (A (0)) 17), some (vl ((((31 : Int64) * (sCard S j W k)) + ((qCard S j k)).toInt64))), none, some (vi ((nI j))), some (vi ((nI (k + 1)))), none]) (fun j9 v9 h9 => by rcases j9 with _ | _ | _ | _ | _ | _ | _ | _ | j9 <;> first | exact h9 | (simp at h9)) ?_
      exact ih (k + 1) (by omega) (by omega)
set_option maxRecDepth 20000 in
theorem zlp0_X12_checksum {l : Launch} {D : va_G} {b0 : Nat} {tA : Nat → ClassId} {sa sv : Nat → Nat} {K : zKt} {I : zI} {Qp : zI → Option AV → Prop} {Xp : String → zI → Prop} {p : Program} {e : Env} {s : State} {m : MethodId} {args : Array Value} {below : List Frame} {meth : Method} {c : Code} {A : Nat → Nat} {n7 m7 : Nat} {S : zS} {j : Nat} {W : Int64}
    (X : zX p l e zrm_X12_checksum s m args below meth c RX12 cX12_checksum 6 (some .long) D b0 tA sa sv) (hnt : ∀ x ∈ c.exceptionTable.toList, False) (hS : zSh K A n7 m7) (hM : zSt I A n7 m7 S) (hW : zWf S) (hj : j < n7) (hk : zG p l e zrm_X12_checksum s m args below meth c 6 D b0 tA sa 0 0 (zQ below D b0 tA sa K args s zrm_X12_checksum Qp Xp) K 132 [some (vr (A (0)) 17), some (vl ((sLine (sL S j 0) W ((sL S j 0)).length))), none, some (vi ((nI j))), some (vi ((0 : Int32))), none] [] I) :
    ∀ (n : Nat) (k : Nat), k ≤ ((sL S j 0)).length → ((sL S j 0)).length - k < n → zG p l e zrm_X12_checksum s m args below meth c 6 D b0 tA sa 0 0 (zQ below D b0 tA sa K args s zrm_X12_checksum Qp Xp) K 82 [some (vr (A (0)) 17), some (vl ((sLine (sL S j 0) W k))), none, some (vi ((nI j))), some (vi ((0 : Int32))), some (vi ((nI k)))] [] I := by
  intro n
  induction n with
  | zero => intro k i1 i9; exact absurd i9 (Nat.not_lt_zero _)
  | succ n ih =>
    intro k i1 i9
    have hA := hS.1
    have hn6 := hM.1.1
    have hm12 := hM.1.2
    have hgn := hM.ng
    have hcm := hM.nc
    have hlen := hW.len
    have hl9 := hW.len j 0
    refine zr_iload5 X dX12_checksum_82 ?_
    refine zr_aload0 X dX12_checksum_84 ?_
    refine zr_getD (r := A (1)) X zf_X12_27 rfl (by decide) (hS.2.1.2.1) dX12_checksum_85 ?_
    refine zr_iload3 X dX12_checksum_88 ?_
    refine zr_aaldD (k := 20) (n := j) (r := A (4 + 5 * j)) X rfl (show _ < 6 from (by first | decide | omega)) ((hS.2.2.1 j (by omega)).1) dX12_checksum_89 ?_
    refine zr_iload4 X dX12_checksum_90 ?_
    refine zr_callV1 (rm9 := zrm_X9_line) X hnt zm_X12_94 (by decide) (by decide) (by decide) (Nat.le_of_ble_eq_true rfl) dX12_checksum_92 ?_
    refine zp0_X9_line hS (by omega) ?_
    refine zr_getI X zf_X12_108 rfl dX12_checksum_95 ?_
    refine zr_eq (x2 := (nI ((sL S j 0).length))) ((hM.2.2.2.2.1 j (by omega)).2.1.1) ?_
    refine zr_nicmp_ge X (k) (((sL S j 0).length)) (tgt := 132) (by omega) (by omega) dX12_checksum_98 (by decide) (fun h1 => ?_) (fun h1 => ?_)
    · skip
      have hj9 : k = ((sL S j 0)).length := by omega
      refine zr_forget (lv2 := [some (vr (A (0)) 17), some (vl ((sLine (sL S j 0) W k))), none, some (vi ((nI j))), some (vi ((0 : Int32))), none]) (fun j9 v9 h9 => by rcases j9 with _ | _ | _ | _ | _ | _ | _ | _ | j9 <;> first | exact h9 | (simp at h9)) ?_
      subst hj9
      exact hk
    · skip
      refine zr_ldc2 (v := 31) X dX12_checksum_101 zk_X12_177 ?_
      refine zr_lload1 X dX12_checksum_104 ?_
      refine zr_lmul X dX12_checksum_105 ?_
      refine zr_aload0 X dX12_checksum_106 ?_
      refine zr_getD (r := A (1)) X zf_X12_27 rfl (by decide) (hS.2.1.2.1) dX12_checksum_107 ?_
      refine zr_iload3 X dX12_checksum_110 ?_
      refine zr_aaldD (k := 20) (n := j) (r := A (4 + 5 * j)) X rfl (show _ < 6 from (by first | decide | omega)) ((hS.2.2.1 j (by omega)).1) dX12_checksum_111 ?_
      refine zr_iload4 X dX12_checksum_112 ?_
      refine zr_callV1 (rm9 := zrm_X9_line) X hnt zm_X12_94 (by decide) (by decide) (by decide) (Nat.le_of_ble_eq_true rfl) dX12_checksum_114 ?_
      refine zp0_X9_line hS (by omega) ?_
      refine zr_getD (r := A (6 + 5 * j)) X zf_X12_122 rfl (by decide) ((hS.2.2.1 j (by omega)).2.2.2.1) dX12_checksum_117 ?_
      refine zr_iload5 X dX12_checksum_120 ?_
      refine zr_ialdN (n := k) X rfl (show _ < 11 from (by first | decide | omega | assumption)) dX12_checksum_122 ?_
      refine zr_eq (x2 := (nI ((sL S j 0).getD k 0) - 1)) ((hM.2.2.2.2.1 j (by omega)).2.1.2 k (by first | omega | assumption)) ?_
      refine zr_i2l X dX12_checksum_123 ?_
      refine zr_ladd X dX12_checksum_124 ?_
      refine zr_lstoreN (i := 1) X rfl (by decide) (fun k9 hk9 w9 hw9 => by obtain rfl : k9 = 0 := (by omega); cases hw9; rfl) dX12_checksum_125 ?_
      refine zr_lv (lv2 := [some (vr (A (0)) 17), some (vl ((((31 : Int64) * (sLine (sL S j 0) W k)) + ((nI ((sL S j 0).getD k 0) - 1)).toInt64))), none, some (vi ((nI j))), some (vi ((0 : Int32))), some (vi ((nI k)))]) rfl ?_
      refine zr_iinc5 (v := (nI (k + 1))) X (show nI (k) + Int32.ofInt 1 = nI (k + 1) from nI_1 (k)) (by decide) rfl dX12_checksum_126 ?_
      refine zr_goto (tgt := 82) X dX12_checksum_129 (by decide) ?_
      exact ih (k + 1) (by omega) (by omega)
set_option maxRecDepth 20000 in
theorem zlp1_X12_checksum {l : Launch} {D : va_G} {b0 : Nat} {tA : Nat → ClassId} {sa sv : Nat → Nat} {K : zKt} {I : zI} {Qp : zI → Option AV → Prop} {Xp : String → zI → Prop} {p : Program} {e : Env} {s : State} {m : MethodId} {args : Array Value} {below : List Frame} {meth : Method} {c : Code} {A : Nat → Nat} {n7 m7 : Nat} {S : zS} {j : Nat} {W : Int64}
    (X : zX p l e zrm_X12_checksum s m args below meth c RX12 cX12_checksum 6 (some .long) D b0 tA sa sv) (hnt : ∀ x ∈ c.exceptionTable.toList, False) (hS : zSh K A n7 m7) (hM : zSt I A n7 m7 S) (hW : zWf S) (hj : j < n7) (hk : zG p l e zrm_X12_checksum s m args below meth c 6 D b0 tA sa 0 0 (zQ below D b0 tA sa K args s zrm_X12_checksum Qp Xp) K 132 [some (vr (A (0)) 17), some (vl ((sLine (sL S j 1) W ((sL S j 1)).length))), none, some (vi ((nI j))), some (vi ((1 : Int32))), none] [] I) :
    ∀ (n : Nat) (k : Nat), k ≤ ((sL S j 1)).length → ((sL S j 1)).length - k < n → zG p l e zrm_X12_checksum s m args below meth c 6 D b0 tA sa 0 0 (zQ below D b0 tA sa K args s zrm_X12_checksum Qp Xp) K 82 [some (vr (A (0)) 17), some (vl ((sLine (sL S j 1) W k))), none, some (vi ((nI j))), some (vi ((1 : Int32))), some (vi ((nI k)))] [] I := by
  intro n
  induction n with
  | zero => intro k i1 i9; exact absurd i9 (Nat.not_lt_zero _)
  | succ n ih =>
    intro k i1 i9
    have hA := hS.1
    have hn6 := hM.1.1
    have hm12 := hM.1.2
    have hgn := hM.ng
    have hcm := hM.nc
    have hlen := hW.len
    have hl9 := hW.len j 1
    refine zr_iload5 X dX12_checksum_82 ?_
    refine zr_aload0 X dX12_checksum_84 ?_
    refine zr_getD (r := A (1)) X zf_X12_27 rfl (by decide) (hS.2.1.2.1) dX12_checksum_85 ?_
    refine zr_iload3 X dX12_checksum_88 ?_
    refine zr_aaldD (k := 20) (n := j) (r := A (4 + 5 * j)) X rfl (show _ < 6 from (by first | decide | omega)) ((hS.2.2.1 j (by omega)).1) dX12_checksum_89 ?_
    refine zr_iload4 X dX12_checksum_90 ?_
    refine zr_callV1 (rm9 := zrm_X9_line) X hnt zm_X12_94 (by decide) (by decide) (by decide) (Nat.le_of_ble_eq_true rfl) dX12_checksum_92 ?_
    refine zp1_X9_line hS (by omega) ?_
    refine zr_getI X zf_X12_108 rfl dX12_checksum_95 ?_
    refine zr_eq (x2 := (nI ((sL S j 1).length))) ((hM.2.2.2.2.1 j (by omega)).2.2.1) ?_
    refine zr_nicmp_ge X (k) (((sL S j 1).length)) (tgt := 132) (by omega) (by omega) dX12_checksum_98 (by decide) (fun h1 => ?_) (fun h1 => ?_)
    · skip
      have hj9 : k = ((sL S j 1)).length := by omega
      refine zr_forget (lv2 := [some (vr (A (0)) 17), some (vl ((sLine (sL S j 1) W k))), none, some (vi ((nI j))), some (vi ((1 : Int32))), none]) (fun j9 v9 h9 => by rcases j9 with _ | _ | _ | _ | _ | _ | _ | _ | j9 <;> first | exact h9 | (simp at h9)) ?_
      subst hj9
      exact hk
    · skip
      refine zr_ldc2 (v := 31) X dX12_checksum_101 zk_X12_177 ?_
      refine zr_lload1 X dX12_checksum_104 ?_
      refine zr_lmul X dX12_checksum_105 ?_
      refine zr_aload0 X dX12_checksum_106 ?_
      refine zr_getD (r := A (1)) X zf_X12_27 rfl (by decide) (hS.2.1.2.1) dX12_checksum_107 ?_
      refine zr_iload3 X dX12_checksum_110 ?_
      refine zr_aaldD (k := 20) (n := j) (r := A (4 + 5 * j)) X rfl (show _ < 6 from (by first | decide | omega)) ((hS.2.2.1 j (by omega)).1) dX12_checksum_111 ?_
      refine zr_iload4 X dX12_checksum_112 ?_
      refine zr_callV1 (rm9 := zrm_X9_line) X hnt zm_X12_94 (by decide) (by decide) (by decide) (Nat.le_of_ble_eq_true rfl) dX12_checksum_114 ?_
      refine zp1_X9_line hS (by omega) ?_
      refine zr_getD (r := A (8 + 5 * j)) X zf_X12_122 rfl (by decide) ((hS.2.2.1 j (by omega)).2.2.2.2) dX12_checksum_117 ?_
      refine zr_iload5 X dX12_checksum_120 ?_
      refine zr_ialdN (n := k) X rfl (show _ < 11 from (by first | decide | omega | assumption)) dX12_checksum_122 ?_
      refine zr_eq (x2 := (nI ((sL S j 1).getD k 0) - 1)) ((hM.2.2.2.2.1 j (by omega)).2.2.2 k (by first | omega | assumption)) ?_
      refine zr_i2l X dX12_checksum_123 ?_
      refine zr_ladd X dX12_checksum_124 ?_
      refine zr_lstoreN (i := 1) X rfl (by decide) (fun k9 hk9 w9 hw9 => by obtain rfl : k9 = 0 := (by omega); cases hw9; rfl) dX12_checksum_125 ?_
      refine zr_lv (lv2 := [some (vr (A (0)) 17), some (vl ((((31 : Int64) * (sLine (sL S j 1) W k)) + ((nI ((sL S j 1).getD k 0) - 1)).toInt64))), none, some (vi ((nI j))), some (vi ((1 : Int32))), some (vi ((nI k)))]) rfl ?_
      refine zr_iinc5 (v := (nI (k + 1))) X (show nI (k) + Int32.ofInt 1 = nI (k + 1) from nI_1 (k)) (by decide) rfl dX12_checksum_126 ?_
      refine zr_goto (tgt := 82) X dX12_checksum_129 (by decide) ?_
      exact ih (k + 1) (by omega) (by omega)
set_option maxRecDepth 20000 in
theorem zlg_X12_checksum {l : Launch} {D : va_G} {b0 : Nat} {tA : Nat → ClassId} {sa sv : Nat → Nat} {K : zKt} {I : zI} {Qp : zI → Option AV → Prop} {Xp : String → zI → Prop} {p : Program} {e : Env} {s : State} {m : MethodId} {args : Array Value} {below : List Frame} {meth : Method} {c : Code} {A : Nat → Nat} {n7 m7 : Nat} {S : zS}
    (X : zX p l e zrm_X12_checksum s m args below meth c RX12 cX12_checksum 6 (some .long) D b0 tA sa sv) (hnt : ∀ x ∈ c.exceptionTable.toList, False) (hS : zSh K A n7 m7) (hM : zSt I A n7 m7 S) (hW : zWf S) (hk : zG p l e zrm_X12_checksum s m args below meth c 6 D b0 tA sa 0 0 (zQ below D b0 tA sa K args s zrm_X12_checksum Qp Xp) K 144 [some (vr (A (0)) 17), some (vl ((sGates S (sState S 16) (zng S)))), none, none, none, none] [] I) :
    ∀ (n : Nat) (j : Nat), j ≤ n7 → n7 - j < n → zG p l e zrm_X12_checksum s m args below meth c 6 D b0 tA sa 0 0 (zQ below D b0 tA sa K args s zrm_X12_checksum Qp Xp) K 31 [some (vr (A (0)) 17), some (vl ((sGates S (sState S 16) j))), none, some (vi ((nI j))), none, none] [] I := by
  intro n
  induction n with
  | zero => intro j i1 i9; exact absurd i9 (Nat.not_lt_zero _)
  | succ n ih =>
    intro j i1 i9
    have hA := hS.1
    have hn6 := hM.1.1
    have hm12 := hM.1.2
    have hgn := hM.ng
    have hcm := hM.nc
    have hlen := hW.len
    refine zr_iload3 X dX12_checksum_31 ?_
    refine zr_aload0 X dX12_checksum_32 ?_
    refine zr_getI X zf_X12_22 rfl dX12_checksum_33 ?_
    refine zr_eq (x2 := (nI n7)) ((hM.2.2.1 4 (by decide) (by decide)).trans hM.2.1.1) ?_
    refine zr_nicmp_ge X (j) (n7) (tgt := 144) (by omega) (by omega) dX12_checksum_36 (by decide) (fun h1 => ?_) (fun h1 => ?_)
    · skip
      have hj : j = zng S := by omega
      refine zr_forget (lv2 := [some (vr (A (0)) 17), some (vl ((sGates S (sState S 16) j))), none, none, none, none]) (fun j9 v9 h9 => by rcases j9 with _ | _ | _ | _ | _ | _ | _ | _ | j9 <;> first | exact h9 | (simp at h9)) ?_
      subst hj
      exact hk
    · skip
      refine zr_iconst (v := (0 : Int32)) X dX12_checksum_39 (by decide) ?_
      refine zr_istore4 X (by decide) rfl dX12_checksum_40 ?_
      refine zl2_X12_checksum X hnt hS hM hW (j := j) (W := (sGates S (sState S 16) j)) (by omega) ?_ 10 0 (by omega) (by omega)
      refine zr_iconst (v := (0 : Int32)) X dX12_checksum_70 (by decide) ?_
      refine zr_istore4 X (by decide) rfl dX12_checksum_71 ?_
      refine zr_iload4 X dX12_checksum_73 ?_
      refine zr_iconst (v := (2 : Int32)) X dX12_checksum_75 (by decide) ?_
      refine zr_icmp_ge (tgt := 138) X dX12_checksum_76 (by decide) (fun h => absurd h (by decide)) (fun _ => ?_)
      refine zr_iconst (v := (0 : Int32)) X dX12_checksum_79 (by decide) ?_
      refine zr_istore5 X (by decide) rfl dX12_checksum_80 ?_
      refine zlp0_X12_checksum X hnt hS hM hW (j := j) (W := (sGate S j (sGates S (sState S 16) j) 9)) (by omega) ?_ 11 0 (by omega) (by have := hW.len j 0; omega)
      refine zr_iinc4 (v := (1 : Int32)) X (by decide) (by decide) rfl dX12_checksum_132 ?_
      refine zr_goto (tgt := 73) X dX12_checksum_135 (by decide) ?_
      refine zr_iload4 X dX12_checksum_73 ?_
      refine zr_iconst (v := (2 : Int32)) X dX12_checksum_75 (by decide) ?_
      refine zr_icmp_ge (tgt := 138) X dX12_checksum_76 (by decide) (fun h => absurd h (by decide)) (fun _ => ?_)
      refine zr_iconst (v := (0 : Int32)) X dX12_checksum_79 (by decide) ?_
      refine zr_istore5 X (by decide) rfl dX12_checksum_80 ?_
      refine zlp1_X12_checksum X hnt hS hM hW (j := j) (W := (sLine (sL S j 0) (sGate S j (sGates S (sState S 16) j) 9) (sL S j 0).length)) (by omega) ?_ 11 0 (by omega) (by have := hW.len j 1; omega)
      refine zr_iinc4 (v := (2 : Int32)) X (by decide) (by decide) rfl dX12_checksum_132 ?_
      refine zr_goto (tgt := 73) X dX12_checksum_135 (by decide) ?_
      refine zr_iload4 X dX12_checksum_73 ?_
      refine zr_iconst (v := (2 : Int32)) X dX12_checksum_75 (by decide) ?_
      refine zr_icmp_ge (tgt := 138) X dX12_checksum_76 (by decide) (fun _ => ?_) (fun h => absurd h (by decide))
      refine zr_iinc3 (v := (nI (j + 1))) X (show nI (j) + Int32.ofInt 1 = nI (j + 1) from nI_1 (j)) (by decide) rfl dX12_checksum_138 ?_
      refine zr_goto (tgt := 31) X dX12_checksum_141 (by decide) ?_
      refine zr_forget (lv2 := [some (vr (A (0)) 17), some (vl ((sLine (sL S j 1) (sLine (sL S j 0) (sGate S j (sGates S (sState S 16) j) 9) (sL S j 0).length) (sL S j 1).length))), none, some (vi ((nI (j + 1)))), none, none]) (fun j9 v9 h9 => by rcases j9 with _ | _ | _ | _ | _ | _ | _ | _ | j9 <;> first | exact h9 | (simp at h9)) ?_
      exact ih (j + 1) (by omega) (by omega)
set_option maxRecDepth 20000 in
theorem zlc_X12_checksum {l : Launch} {D : va_G} {b0 : Nat} {tA : Nat → ClassId} {sa sv : Nat → Nat} {K : zKt} {I : zI} {Qp : zI → Option AV → Prop} {Xp : String → zI → Prop} {p : Program} {e : Env} {s : State} {m : MethodId} {args : Array Value} {below : List Frame} {meth : Method} {c : Code} {A : Nat → Nat} {n7 m7 : Nat} {S : zS}
    (X : zX p l e zrm_X12_checksum s m args below meth c RX12 cX12_checksum 6 (some .long) D b0 tA sa sv) (hnt : ∀ x ∈ c.exceptionTable.toList, False) (hS : zSh K A n7 m7) (hM : zSt I A n7 m7 S) (hW : zWf S) (hk : zG p l e zrm_X12_checksum s m args below meth c 6 D b0 tA sa 0 0 (zQ below D b0 tA sa K args s zrm_X12_checksum Qp Xp) K 191 [some (vr (A (0)) 17), some (vl ((sCards S (sGates S (sState S 16) (zng S)) (znc S)))), none, none, none, none] [] I) :
    ∀ (n : Nat) (j : Nat), j ≤ m7 → m7 - j < n → zG p l e zrm_X12_checksum s m args below meth c 6 D b0 tA sa 0 0 (zQ below D b0 tA sa K args s zrm_X12_checksum Qp Xp) K 146 [some (vr (A (0)) 17), some (vl ((sCards S (sGates S (sState S 16) (zng S)) j))), none, some (vi ((nI j))), none, none] [] I := by
  intro n
  induction n with
  | zero => intro j i1 i9; exact absurd i9 (Nat.not_lt_zero _)
  | succ n ih =>
    intro j i1 i9
    have hA := hS.1
    have hn6 := hM.1.1
    have hm12 := hM.1.2
    have hgn := hM.ng
    have hcm := hM.nc
    have hlen := hW.len
    refine zr_iload3 X dX12_checksum_146 ?_
    refine zr_aload0 X dX12_checksum_147 ?_
    refine zr_getI X zf_X12_31 rfl dX12_checksum_148 ?_
    refine zr_eq (x2 := (nI m7)) ((hM.2.2.1 5 (by decide) (by decide)).trans hM.2.1.2) ?_
    refine zr_nicmp_ge X (j) (m7) (tgt := 191) (by omega) (by omega) dX12_checksum_151 (by decide) (fun h1 => ?_) (fun h1 => ?_)
    · skip
      have hj : j = znc S := by omega
      refine zr_forget (lv2 := [some (vr (A (0)) 17), some (vl ((sCards S (sGates S (sState S 16) (zng S)) j))), none, none, none, none]) (fun j9 v9 h9 => by rcases j9 with _ | _ | _ | _ | _ | _ | _ | _ | j9 <;> first | exact h9 | (simp at h9)) ?_
      subst hj
      exact hk
    · skip
      refine zr_iconst (v := (0 : Int32)) X dX12_checksum_154 (by decide) ?_
      refine zr_istore4 X (by decide) rfl dX12_checksum_155 ?_
      refine zl3_X12_checksum X hnt hS hM hW (j := j) (W := (sCards S (sGates S (sState S 16) (zng S)) j)) (by omega) ?_ 8 0 (by omega) (by omega)
      refine zr_iinc3 (v := (nI (j + 1))) X (show nI (j) + Int32.ofInt 1 = nI (j + 1) from nI_1 (j)) (by decide) rfl dX12_checksum_185 ?_
      refine zr_goto (tgt := 146) X dX12_checksum_188 (by decide) ?_
      refine zr_forget (lv2 := [some (vr (A (0)) 17), some (vl ((sCard S j (sCards S (sGates S (sState S 16) (zng S)) j) 7))), none, some (vi ((nI (j + 1)))), none, none]) (fun j9 v9 h9 => by rcases j9 with _ | _ | _ | _ | _ | _ | _ | _ | j9 <;> first | exact h9 | (simp at h9)) ?_
      exact ih (j + 1) (by omega) (by omega)
set_option maxRecDepth 20000 in
theorem zp_X12_checksum {l : Launch} {D : va_G} {b0 : Nat} {tA : Nat → ClassId} {sa sv : Nat → Nat} {K : zKt} {I : zI} {Qp : zI → Option AV → Prop} {Xp : String → zI → Prop} {A : Nat → Nat} {n7 m7 : Nat} {S : zS}
    (hS : zSh K A n7 m7) (hM : zSt I A n7 m7 S) (hW : zWf S) (k1 : Qp I (some (vl (qSum S)))) :
    zC l D b0 tA sa sv K yX12_checksum (.code yX12_checksum cX12_checksum 6 (some .long)) zrm_X12_checksum [vr (A (0)) 17] I Qp Xp := by
  have hA := hS.1
  have hn6 := hM.1.1
  have hm12 := hM.1.2
  have hgn := hM.ng
  have hcm := hM.nc
  have hlen := hW.len
  refine zC_of (by decide +kernel) (Nat.le_of_ble_eq_true rfl) ?_
  intro p e s m args below meth c X hnt
  have X : zX p l e zrm_X12_checksum s m args below meth c RX12 cX12_checksum 6 (some .long) D b0 tA sa sv := X
  refine zr_lv (lv2 := [some (vr (A (0)) 17), none, none, none, none, none]) rfl ?_
  refine zr_lconst (v := (0 : Int64)) X dX12_checksum_0 (by decide) ?_
  refine zr_lstoreN (i := 1) X rfl (by decide) (fun k9 hk9 w9 hw9 => by obtain rfl : k9 = 0 := (by omega); cases hw9; rfl) dX12_checksum_1 ?_
  refine zr_lv (lv2 := [some (vr (A (0)) 17), some (vl ((0 : Int64))), none, none, none, none]) rfl ?_
  refine zr_iconst (v := (0 : Int32)) X dX12_checksum_2 (by decide) ?_
  refine zr_istore3 X (by decide) rfl dX12_checksum_3 ?_
  refine zl1_X12_checksum X hnt hS hM hW ?_ 17 0 (by omega) (by omega)
  refine zr_iconst (v := (0 : Int32)) X dX12_checksum_29 (by decide) ?_
  refine zr_istore3 X (by decide) rfl dX12_checksum_30 ?_
  refine zr_forget (lv2 := [some (vr (A (0)) 17), some (vl ((sState S 16))), none, some (vi ((0 : Int32))), none, none]) (fun j9 v9 h9 => by rcases j9 with _ | _ | _ | _ | _ | _ | _ | _ | j9 <;> first | exact h9 | (simp at h9)) ?_
  refine zlg_X12_checksum X hnt hS hM hW ?_ (n7 + 1) 0 (by omega) (by omega)
  refine zr_iconst (v := (0 : Int32)) X dX12_checksum_144 (by decide) ?_
  refine zr_istore3 X (by decide) rfl dX12_checksum_145 ?_
  refine zr_forget (lv2 := [some (vr (A (0)) 17), some (vl ((sGates S (sState S 16) (zng S)))), none, some (vi ((0 : Int32))), none, none]) (fun j9 v9 h9 => by rcases j9 with _ | _ | _ | _ | _ | _ | _ | _ | j9 <;> first | exact h9 | (simp at h9)) ?_
  refine zlc_X12_checksum X hnt hS hM hW ?_ (m7 + 1) 0 (by omega) (by omega)
  refine zr_lload1 X dX12_checksum_191 ?_
  refine zr_lret X (by decide) (by decide) dX12_checksum_192 ?_
  exact k1
