/-! ===== a random number; texts as the law collects them ===== -/
theorem zushr (x : Int32) : ∃ q : Nat, ((x.toUInt32 >>> ((16 : Int32).toUInt32 &&& Int32.toUInt32 31)).toInt32) = nI q ∧ q < 2 ^ 16 := by
  refine ⟨(x.toUInt32 >>> 16).toNat, ?_, ?_⟩
  · rw [show ((16 : Int32).toUInt32 &&& Int32.toUInt32 31) = 16 by decide]
    apply Int32.toBitVec_inj.mp
    apply BitVec.eq_of_toNat_eq
    show (x.toUInt32 >>> 16).toNat = (x.toUInt32 >>> 16).toNat % 2 ^ 32
    rw [Nat.mod_eq_of_lt (x.toUInt32 >>> 16).toNat_lt]
  · rw [UInt32.toNat_shiftRight, Nat.shiftRight_eq_div_pow]
    have := x.toUInt32.toNat_lt
    have e : (16 : UInt32).toNat % 32 = 16 := by decide
    rw [e]
    omega
abbrev zrm_X11_below : Room := { frames := 0, cells := 0, slots := 0, locals := 0 }
set_option maxRecDepth 20000 in
theorem zp_X11_below {l : Launch} {D : va_G} {b0 : Nat} {tA : Nat → ClassId} {sa sv : Nat → Nat} {K : zKt} {I : zI} {Qp : zI → Option AV → Prop} {Xp : String → zI → Prop} {a b : Nat}
    (hb : 0 < b) (hb2 : b < 2 ^ 30) (k1 : ∀ (v : Int32) (r : Nat), r < b → Qp (zput I a 0 v) (some (vi (nI r)))) :
    zC l D b0 tA sa sv K yX11_below (.code yX11_below cX11_below 2 (some .int)) zrm_X11_below [vr (a) 16, vi ((nI b))] I Qp Xp := by
  refine zC_of (by decide +kernel) (Nat.le_of_ble_eq_true rfl) ?_
  intro p e s m args below meth c X hnt
  have X : zX p l e zrm_X11_below s m args below meth c RX11 cX11_below 2 (some .int) D b0 tA sa sv := X
  refine zr_lv (lv2 := [some (vr (a) 16), some (vi ((nI b)))]) rfl ?_
  refine zr_aload0 X dX11_below_0 ?_
  refine zr_ldc (v := 1103515245) X dX11_below_1 zk_X11_13 ?_
  refine zr_aload0 X dX11_below_3 ?_
  refine zr_getI X zf_X11_7 rfl dX11_below_4 ?_
  refine zr_imul X dX11_below_7 ?_
  refine zr_sipush (v := (12345 : Int32)) X dX11_below_8 (by decide) ?_
  refine zr_iadd X dX11_below_11 ?_
  refine zr_putI X zf_X11_7 rfl (Or.inl rfl) dX11_below_12 ?_
  refine zr_aload0 X dX11_below_15 ?_
  refine zr_getI X zf_X11_7 rfl dX11_below_16 ?_
  refine zr_eq (x2 := (((1103515245 : Int32) * (I (a) 0)) + (12345 : Int32))) (zput_eq) ?_
  refine zr_bipush (v := (16 : Int32)) X dX11_below_19 (by decide) ?_
  refine zr_iushr X dX11_below_21 ?_
  obtain ⟨q9, hq9, hq8⟩ := zushr _
  refine zr_eq (x2 := nI q9) hq9 ?_
  refine zr_iload1 X dX11_below_22 ?_
  refine zr_irem X dX11_below_23 (fun z => by have := (zn_i0 (a := b) (by omega)).1.mp z; omega) ?_
  refine zr_eq (x2 := (nI (q9 % b))) (pk_rem (a := q9) (d := b) (by omega) hb (by omega)) ?_
  refine zr_iret X (by decide) (by decide) dX11_below_24 ?_
  exact k1 _ _ (Nat.mod_lt _ hb)
theorem zor_toNat {a b : Int32} : (a = 0 → a ||| b = b) ∧ (b = 0 → a ||| b = a) := ⟨fun h => by rw [h]; exact Int32.zero_or, fun h => by rw [h]; exact Int32.or_zero⟩
def wB3 (w : Int32) (k : Nat) : Int32 := (w >>> (nI (24 - 8 * k) &&& 31) &&& 255)
theorem wB3_or {w v : Int32} {k : Nat} : wB3 (w ||| v) k = wB3 w k ||| wB3 v k := by
  unfold wB3
  apply Int32.toBitVec_inj.mp
  apply BitVec.eq_of_getLsbD_eq
  intro i hi
  simp only [Int32.toBitVec_and, Int32.toBitVec_or, Int32.toBitVec_shiftRight, BitVec.getLsbD_and, BitVec.getLsbD_or, BitVec.getLsbD_sshiftRight', BitVec.getLsbD_sshiftRight, BitVec.sshiftRight_eq', BitVec.msb_or]
  repeat' split
  all_goals (simp only [Bool.and_or_distrib_left, Bool.and_or_distrib_right, Bool.and_false, Bool.false_and, Bool.or_self])
theorem wB3_c : ∀ j, j < 4 → ∀ k, k < 4 → ∀ c, c < 256 → wB3 (nI c <<< (nI (24 - 8 * j) &&& 31)) k = if k = j then nI c else 0 := by decide +kernel
theorem wB3_0 : ∀ k, k < 4 → wB3 0 k = 0 := by decide
/-- m characters from b on, in a word -/
def zwd (L : List Nat) (b : Nat) : Nat → Int32
  | 0 => 0
  | m + 1 => zwd L b m ||| (nI (L.getD (b + m) 0) <<< (nI (24 - 8 * m) &&& 31))
theorem zwd_B {L : List Nat} {b : Nat} (hc : ∀ y ∈ L, y < 256) : ∀ m, m ≤ 4 → ∀ k, k < 4 → wB3 (zwd L b m) k = if k < m then nI (L.getD (b + k) 0) else 0
  | 0, _, k, hk => by rw [zwd, wB3_0 k hk, if_neg (Nat.not_lt_zero _)]
  | m + 1, hm, k, hk => by
    have h8 : L.getD (b + m) 0 < 256 := by
      rw [List.getD_eq_getElem?_getD]
      cases e : L[b + m]? with
      | none => decide
      | some y => exact hc y (List.mem_of_getElem? e)
    rw [zwd, wB3_or, zwd_B hc m (by omega) k hk, wB3_c m (by omega) k hk _ h8]
    by_cases q : k = m
    · subst q; rw [if_neg (Nat.lt_irrefl _), if_pos rfl, if_pos (Nat.lt_succ_self _), Int32.zero_or]
    · rw [if_neg q, Int32.or_zero]
      by_cases q2 : k < m
      · rw [if_pos q2, if_pos (by omega)]
      · rw [if_neg q2, if_neg (by omega)]
theorem zwd_by {L : List Nat} {b m k : Nat} (hc : ∀ y ∈ L, y < 256) (hm : m ≤ 4) (hk : k < m) : wBy (zwd L b m) k = L.getD (b + k) 0 := by
  have h := zwd_B (b := b) hc m hm k (by omega)
  rw [if_pos hk] at h
  have h8 : L.getD (b + k) 0 < 256 := by
    rw [List.getD_eq_getElem?_getD]
    cases e : L[b + k]? with
    | none => decide
    | some y => exact hc y (List.mem_of_getElem? e)
  show (wB3 (zwd L b m) k).toNatClampNeg = _
  rw [h]; exact nI_clamp (by omega)
theorem zwd_app {L : List Nat} {c b : Nat} : ∀ m, b + m ≤ L.length → zwd (L ++ [c]) b m = zwd L b m
  | 0, _ => rfl
  | m + 1, h => by
    rw [zwd, zwd, zwd_app m (by omega), List.getD_eq_getElem?_getD, List.getD_eq_getElem?_getD, List.getElem?_append_left (by omega)]
theorem zgd_end {L : List Nat} {c : Nat} : (L ++ [c]).getD L.length 0 = c := by
  rw [List.getD_eq_getElem?_getD, List.getElem?_append_right (Nat.le_refl _), Nat.sub_self]; rfl
theorem zgd_app {L M : List Nat} {i : Nat} (h : i < L.length) : (L ++ M).getD i 0 = L.getD i 0 := by
  rw [List.getD_eq_getElem?_getD, List.getD_eq_getElem?_getD, List.getElem?_append_left h]
theorem tAdd_hi {t : Nat → Nat} {f k i : Nat} {w : Int32} (hi : i < 4) (hk : k = f + i) : tAdd t f w k = wBy w i := by subst hk; exact tAdd_at hi
theorem tApp_lo {t : Nat → Nat} {f k : Nat} {a b c d e : Int32} (h : k < f) : tApp t f a b c d e k = t k := by
  unfold tApp
  rw [tAdd_lo (by omega), tAdd_lo (by omega), tAdd_lo (by omega), tAdd_lo (by omega), tAdd_lo h]
theorem tApp_at {t : Nat → Nat} {f i j : Nat} {v : Nat → Int32} (hj : j < 5) (hi : i < 4) : tApp t f (v 0) (v 1) (v 2) (v 3) (v 4) (f + 4 * j + i) = wBy (v j) i := by
  unfold tApp
  rcases (show j = 0 ∨ j = 1 ∨ j = 2 ∨ j = 3 ∨ j = 4 by omega) with rfl | rfl | rfl | rfl | rfl
  · rw [tAdd_lo (by omega), tAdd_lo (by omega), tAdd_lo (by omega), tAdd_lo (by omega), tAdd_hi hi (by omega)]
  · rw [tAdd_lo (by omega), tAdd_lo (by omega), tAdd_lo (by omega), tAdd_hi hi (by omega)]
  · rw [tAdd_lo (by omega), tAdd_lo (by omega), tAdd_hi hi (by omega)]
  · rw [tAdd_lo (by omega), tAdd_hi hi (by omega)]
  · rw [tAdd_hi hi (by omega)]
/-- the buffer w holds the end of the text L, f of whose characters have been appended -/
def zTw (J : zI) (w : Nat) (L : List Nat) (f : Nat) : Prop := J w 0 = nI L.length ∧ ∀ k : Nat, k < 5 → J w (1 + k) = zwd L (f + 4 * k) (min 4 (L.length - (f + 4 * k)))
/-- nothing but the class and the buffer has changed -/
def zfw (I J : zI) (x w : Nat) : Prop := ∀ q : Nat, (q < x ∨ x + 501 ≤ q) → q ≠ w → J q = I q
theorem zfw.rf {I : zI} {x w : Nat} : zfw I I x w := fun _ _ _ => rfl
theorem zfw.tr {I J L : zI} {x w : Nat} (h : zfw I J x w) (g : zfw J L x w) : zfw I L x w := fun q a b => (g q a b).trans (h q a b)
theorem zfw.put {I J : zI} {x w j : Nat} {v : Int32} (h : zfw I J x w) : zfw I (zput J w j v) x w := fun q a b => (zput_nq b).trans (h q a b)
theorem zCl.pw {J : zI} {x w f j : Nat} {t : Nat → Nat} {er v : Int32} {S : zS} {U : List zS} (h : zCl J J x t f er S U) (hw : w < x ∨ x + 501 ≤ w) : zCl (zput J w j v) (zput J w j v) x t f er S U := h.on (fun q a b => zput_nq (by omega))
def zTx (I : zI) (x w : Nat) (er : Int32) (S : zS) (U : List zS) (L : List Nat) : Prop := ∃ t : Nat → Nat, zCl I I x t (L.length / 20 * 20) er S U ∧ (∀ i, i < L.length / 20 * 20 → t i = L.getD i 0) ∧ zTw I w L (L.length / 20 * 20) ∧ ∀ y ∈ L, y < 256
/-- what a flush of full or half words leaves -/
theorem zTw_fl {t : Nat → Nat} {I : zI} {w f : Nat} {L : List Nat} (h : zTw I w L f) (ht : ∀ i, i < f → t i = L.getD i 0) (hc : ∀ y ∈ L, y < 256) (hl : L.length ≤ f + 20) : ∀ i, i < L.length → tApp t f (I w 1) (I w 2) (I w 3) (I w 4) (I w 5) i = L.getD i 0 := by
  intro i hi
  rcases Nat.lt_or_ge i f with q | q
  · rw [tApp_lo q]; exact ht i q
  · obtain ⟨j, k, hj, hk, rfl⟩ : ∃ j k, j < 5 ∧ k < 4 ∧ i = f + 4 * j + k := ⟨(i - f) / 4, (i - f) % 4, by omega, by omega, by omega⟩
    have := tApp_at (t := t) (f := f) (i := k) (j := j) (v := fun z => I w (1 + z)) hj hk
    refine this.trans ?_
    show wBy (I w (1 + j)) k = _
    rw [h.2 j hj]
    exact zwd_by hc (by omega) (by omega)
theorem zTw_put {I J : zI} {w f c : Nat} {L : List Nat} (h : zTw I w L f) (hf : f = L.length / 20 * 20) (h0 : J w 0 = nI (L.length + 1)) (h1 : J w (1 + L.length % 20 / 4) = zwd L (f + 4 * (L.length % 20 / 4)) (L.length % 4) ||| (nI c <<< (nI (24 - 8 * (L.length % 4)) &&& 31))) (h2 : ∀ k, k < 5 → k ≠ L.length % 20 / 4 → J w (1 + k) = I w (1 + k)) : zTw J w (L ++ [c]) f := by
  refine ⟨by rw [h0, List.length_append]; rfl, fun k hk => ?_⟩
  by_cases q : k = L.length % 20 / 4
  · subst q
    rw [h1, List.length_append]
    have e1 : min 4 (L.length + [c].length - (f + 4 * (L.length % 20 / 4))) = L.length % 4 + 1 := by show min 4 (L.length + 1 - _) = _; omega
    have e2 : f + 4 * (L.length % 20 / 4) + L.length % 4 = L.length := by omega
    rw [e1, zwd, zwd_app _ (by omega), e2, zgd_end]
  · rw [h2 k hk q, h.2 k hk, List.length_append]
    show _ = zwd (L ++ [c]) _ (min 4 (L.length + 1 - _))
    have e1 : min 4 (L.length + 1 - (f + 4 * k)) = min 4 (L.length - (f + 4 * k)) := by omega
    rw [e1]
    rcases Nat.lt_or_ge k (L.length % 20 / 4) with q2 | q2
    · exact (zwd_app _ (by omega)).symm
    · rw [show min 4 (L.length - (f + 4 * k)) = 0 by omega]; rfl
theorem zTw_new {J : zI} {w : Nat} {L : List Nat} (h0 : J w 0 = nI L.length) (h : ∀ k, k < 5 → J w (1 + k) = 0) : zTw J w L L.length := by
  refine ⟨h0, fun k hk => ?_⟩
  rw [h k hk, show min 4 (L.length - (L.length + 4 * k)) = 0 by omega]; rfl
abbrev zrm_L_flush : Room := { frames := 2, cells := 0, slots := 0, locals := 47 }
set_option maxRecDepth 20000 in
theorem zp_L_flush {l : Launch} {D : va_G} {b0 : Nat} {tA : Nat → ClassId} {sa sv : Nat → Nat} {K : zKt} {I : zI} {Qp : zI → Option AV → Prop} {Xp : String → zI → Prop} {x w f : Nat} {t : Nat → Nat} {er : Int32} {S : zS} {U : List zS}
    (hC : zCl I I x t f er S U) (hw : w < x ∨ x + 501 ≤ w) (hf : f ≤ 480) (k1 : ∀ J : zI, zCl J J x (tApp t f (I w 1) (I w 2) (I w 3) (I w 4) (I w 5)) (f + 20) er S U → J w 0 = I w 0 → (∀ k : Nat, k < 5 → J w (1 + k) = 0) → zfw I J x w → Qp J none) :
    zC l D b0 tA sa sv K yL_flush (.code yL_flush cL_flush 3 none) zrm_L_flush [vr (x) 7, vr (w) 19] I Qp Xp := by
  refine zC_of (by decide +kernel) (Nat.le_of_ble_eq_true rfl) ?_
  intro p e s m args below meth c X hnt
  have X : zX p l e zrm_L_flush s m args below meth c RL cL_flush 3 none D b0 tA sa sv := X
  refine zr_lv (lv2 := [some (vr (x) 7), some (vr (w) 19), none]) rfl ?_
  refine zr_aload0 X dL_flush_0 ?_
  refine zr_aload1 X dL_flush_1 ?_
  refine zr_iconst (v := (1 : Int32)) X dL_flush_2 (by decide) ?_
  refine zr_ialdN (n := 1) X rfl (show _ < 8 from (by first | decide | omega | assumption)) dL_flush_3 ?_
  refine zr_aload1 X dL_flush_4 ?_
  refine zr_iconst (v := (2 : Int32)) X dL_flush_5 (by decide) ?_
  refine zr_ialdN (n := 2) X rfl (show _ < 8 from (by first | decide | omega | assumption)) dL_flush_6 ?_
  refine zr_aload1 X dL_flush_7 ?_
  refine zr_iconst (v := (3 : Int32)) X dL_flush_8 (by decide) ?_
  refine zr_ialdN (n := 3) X rfl (show _ < 8 from (by first | decide | omega | assumption)) dL_flush_9 ?_
  refine zr_aload1 X dL_flush_10 ?_
  refine zr_iconst (v := (4 : Int32)) X dL_flush_11 (by decide) ?_
  refine zr_ialdN (n := 4) X rfl (show _ < 8 from (by first | decide | omega | assumption)) dL_flush_12 ?_
  refine zr_aload1 X dL_flush_13 ?_
  refine zr_iconst (v := (5 : Int32)) X dL_flush_14 (by decide) ?_
  refine zr_ialdN (n := 5) X rfl (show _ < 8 from (by first | decide | omega | assumption)) dL_flush_15 ?_
  refine zr_callV5 (rm9 := zrm_X7_append) X hnt zm_L_13 (by decide) (by decide) (by decide) (Nat.le_of_ble_eq_true rfl) dL_flush_16 ?_
  refine zq_X7_append hC (fun _ J1 hJ2 => ?_) (fun h => absurd hf h)
  refine zr_popI X dL_flush_19 ?_
  refine zr_iconst (v := (1 : Int32)) X dL_flush_20 (by decide) ?_
  refine zr_istore2 X (by decide) rfl dL_flush_21 ?_
  refine zr_iload2 X dL_flush_22 ?_
  refine zr_bipush (v := (6 : Int32)) X dL_flush_23 (by decide) ?_
  refine zr_icmp_ge (tgt := 38) X dL_flush_25 (by decide) (fun h => absurd h (by decide)) (fun _ => ?_)
  refine zr_aload1 X dL_flush_28 ?_
  refine zr_iload2 X dL_flush_29 ?_
  refine zr_iconst (v := (0 : Int32)) X dL_flush_30 (by decide) ?_
  refine zr_iastN (n := 1) X rfl (show _ < 8 from (by first | decide | omega | assumption)) dL_flush_31 ?_
  refine zr_iinc2 (v := (2 : Int32)) X (by decide) (by decide) rfl dL_flush_32 ?_
  refine zr_goto (tgt := 22) X dL_flush_35 (by decide) ?_
  refine zr_iload2 X dL_flush_22 ?_
  refine zr_bipush (v := (6 : Int32)) X dL_flush_23 (by decide) ?_
  refine zr_icmp_ge (tgt := 38) X dL_flush_25 (by decide) (fun h => absurd h (by decide)) (fun _ => ?_)
  refine zr_aload1 X dL_flush_28 ?_
  refine zr_iload2 X dL_flush_29 ?_
  refine zr_iconst (v := (0 : Int32)) X dL_flush_30 (by decide) ?_
  refine zr_iastN (n := 2) X rfl (show _ < 8 from (by first | decide | omega | assumption)) dL_flush_31 ?_
  refine zr_iinc2 (v := (3 : Int32)) X (by decide) (by decide) rfl dL_flush_32 ?_
  refine zr_goto (tgt := 22) X dL_flush_35 (by decide) ?_
  refine zr_iload2 X dL_flush_22 ?_
  refine zr_bipush (v := (6 : Int32)) X dL_flush_23 (by decide) ?_
  refine zr_icmp_ge (tgt := 38) X dL_flush_25 (by decide) (fun h => absurd h (by decide)) (fun _ => ?_)
  refine zr_aload1 X dL_flush_28 ?_
  refine zr_iload2 X dL_flush_29 ?_
  refine zr_iconst (v := (0 : Int32)) X dL_flush_30 (by decide) ?_
  refine zr_iastN (n := 3) X rfl (show _ < 8 from (by first | decide | omega | assumption)) dL_flush_31 ?_
  refine zr_iinc2 (v := (4 : Int32)) X (by decide) (by decide) rfl dL_flush_32 ?_
  refine zr_goto (tgt := 22) X dL_flush_35 (by decide) ?_
  refine zr_iload2 X dL_flush_22 ?_
  refine zr_bipush (v := (6 : Int32)) X dL_flush_23 (by decide) ?_
  refine zr_icmp_ge (tgt := 38) X dL_flush_25 (by decide) (fun h => absurd h (by decide)) (fun _ => ?_)
  refine zr_aload1 X dL_flush_28 ?_
  refine zr_iload2 X dL_flush_29 ?_
  refine zr_iconst (v := (0 : Int32)) X dL_flush_30 (by decide) ?_
  refine zr_iastN (n := 4) X rfl (show _ < 8 from (by first | decide | omega | assumption)) dL_flush_31 ?_
  refine zr_iinc2 (v := (5 : Int32)) X (by decide) (by decide) rfl dL_flush_32 ?_
  refine zr_goto (tgt := 22) X dL_flush_35 (by decide) ?_
  refine zr_iload2 X dL_flush_22 ?_
  refine zr_bipush (v := (6 : Int32)) X dL_flush_23 (by decide) ?_
  refine zr_icmp_ge (tgt := 38) X dL_flush_25 (by decide) (fun h => absurd h (by decide)) (fun _ => ?_)
  refine zr_aload1 X dL_flush_28 ?_
  refine zr_iload2 X dL_flush_29 ?_
  refine zr_iconst (v := (0 : Int32)) X dL_flush_30 (by decide) ?_
  refine zr_iastN (n := 5) X rfl (show _ < 8 from (by first | decide | omega | assumption)) dL_flush_31 ?_
  refine zr_iinc2 (v := (6 : Int32)) X (by decide) (by decide) rfl dL_flush_32 ?_
  refine zr_goto (tgt := 22) X dL_flush_35 (by decide) ?_
  refine zr_iload2 X dL_flush_22 ?_
  refine zr_bipush (v := (6 : Int32)) X dL_flush_23 (by decide) ?_
  refine zr_icmp_ge (tgt := 38) X dL_flush_25 (by decide) (fun _ => ?_) (fun h => absurd h (by decide))
  refine zr_vret X (by decide) (by decide) dL_flush_38 ?_
  have h9 : J1 w = I w := hJ2.2.2.2.2.1.2 w hw
  refine k1 _ (zCl.pw (zCl.pw (zCl.pw (zCl.pw (zCl.pw hJ2.re hw) hw) hw) hw) hw) ?_ ?_ ?_
  · exact (zput_nj (by decide)).trans ((zput_nj (by decide)).trans ((zput_nj (by decide)).trans ((zput_nj (by decide)).trans ((zput_nj (by decide)).trans (congrFun h9 0)))))
  · intro k9 hk9
    rcases (show k9 = 0 ∨ k9 = 1 ∨ k9 = 2 ∨ k9 = 3 ∨ k9 = 4 by omega) with rfl | rfl | rfl | rfl | rfl
    · exact (zput_nj (by decide)).trans ((zput_nj (by decide)).trans ((zput_nj (by decide)).trans ((zput_nj (by decide)).trans (zput_eq))))
    · exact (zput_nj (by decide)).trans ((zput_nj (by decide)).trans ((zput_nj (by decide)).trans (zput_eq)))
    · exact (zput_nj (by decide)).trans ((zput_nj (by decide)).trans (zput_eq))
    · exact (zput_nj (by decide)).trans (zput_eq)
    · exact zput_eq
  · exact fun q a b => (zput_nq b).trans ((zput_nq b).trans ((zput_nq b).trans ((zput_nq b).trans ((zput_nq b).trans (hJ2.2.2.2.2.1.2 q a)))))
