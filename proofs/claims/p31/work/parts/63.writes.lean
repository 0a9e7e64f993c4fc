/-! ===== put, write, writeNumber, loadText ===== -/
theorem zTw_at {I : zI} {w f : Nat} {L : List Nat} (h : zTw I w L f) (hf : f = L.length / 20 * 20) : I w (1 + L.length % 20 / 4) = zwd L (f + 4 * (L.length % 20 / 4)) (L.length % 4) := by
  rw [h.2 _ (by omega)]
  congr 1
  omega
theorem zTx_clean {I J : zI} {x w f c : Nat} {t : Nat → Nat} {er : Int32} {S : zS} {U : List zS} {L : List Nat} (hC : zCl J J x t f er S U) (ht : ∀ i, i < L.length → t i = L.getD i 0) (hf : f = L.length) (h20 : L.length % 20 = 0) (h0 : J w 0 = nI L.length) (h : ∀ k, k < 5 → J w (1 + k) = 0) (hc : ∀ y ∈ L, y < 256) : zTx J x w er S U L := by
  have e : L.length / 20 * 20 = L.length := by omega
  subst hf
  exact ⟨t, by rw [e]; exact hC, fun i hi => ht i (by omega), by rw [e]; exact zTw_new h0 h, hc⟩
abbrev zrm_L_put : Room := { frames := 3, cells := 0, slots := 0, locals := 69 }
set_option maxRecDepth 20000 in
theorem zp_L_put {l : Launch} {D : va_G} {b0 : Nat} {tA : Nat → ClassId} {sa sv : Nat → Nat} {K : zKt} {I : zI} {Qp : zI → Option AV → Prop} {Xp : String → zI → Prop} {x w : Nat} {er : Int32} {S : zS} {U : List zS} {L : List Nat} {c9 : Nat}
    (hT : zTx I x w er S U L) (hw : w < x ∨ x + 501 ≤ w) (hc : c9 < 256) (hl : L.length < 440) (k1 : ∀ J : zI, zTx J x w er S U (L ++ [c9]) → zfw I J x w → Qp J none) :
    zC l D b0 tA sa sv K yL_put (.code yL_put cL_put 3 none) zrm_L_put [vr (x) 7, vr (w) 19, vi ((nI c9))] I Qp Xp := by
  obtain ⟨t, hC, ht, hB, hL⟩ := hT
  refine zC_of (by decide +kernel) (Nat.le_of_ble_eq_true rfl) ?_
  intro p e s m args below meth c X hnt
  have X : zX p l e zrm_L_put s m args below meth c RL cL_put 3 none D b0 tA sa sv := X
  refine zr_lv (lv2 := [some (vr (x) 7), some (vr (w) 19), some (vi ((nI c9)))]) rfl ?_
  refine zr_aload1 X dL_put_0 ?_
  refine zr_iconst (v := (1 : Int32)) X dL_put_1 (by decide) ?_
  refine zr_aload1 X dL_put_2 ?_
  refine zr_iconst (v := (0 : Int32)) X dL_put_3 (by decide) ?_
  refine zr_ialdN (n := 0) X rfl (show _ < 8 from (by first | decide | omega | assumption)) dL_put_4 ?_
  refine zr_eq (x2 := (nI L.length)) (hB.1) ?_
  refine zr_bipush (v := (20 : Int32)) X dL_put_5 (by decide) ?_
  refine zr_irem X dL_put_7 (by decide) ?_
  refine zr_eq (x2 := (nI (L.length % 20))) (pk_rem (a := L.length) (d := 20) (by omega) (by decide) (by decide)) ?_
  refine zr_iconst (v := (4 : Int32)) X dL_put_8 (by decide) ?_
  refine zr_idiv X dL_put_9 (by decide) ?_
  refine zr_eq (x2 := (nI ((L.length % 20) / 4))) (pk_div (a := (L.length % 20)) (d := 4) (by omega) (by decide) (by decide)) ?_
  refine zr_iadd X dL_put_10 ?_
  refine zr_eq (x2 := (nI (1 + ((L.length % 20) / 4)))) (nI_add (1) (((L.length % 20) / 4))) ?_
  refine zr_dup2 X dL_put_11 ?_
  refine zr_ialdN (n := (1 + ((L.length % 20) / 4))) X rfl (show _ < 8 from (by first | decide | omega | assumption)) dL_put_12 ?_
  refine zr_eq (x2 := (zwd L (L.length / 20 * 20 + 4 * (L.length % 20 / 4)) (L.length % 4))) (zTw_at hB rfl) ?_
  refine zr_iload2 X dL_put_13 ?_
  refine zr_bipush (v := (24 : Int32)) X dL_put_14 (by decide) ?_
  refine zr_bipush (v := (8 : Int32)) X dL_put_16 (by decide) ?_
  refine zr_aload1 X dL_put_18 ?_
  refine zr_iconst (v := (0 : Int32)) X dL_put_19 (by decide) ?_
  refine zr_ialdN (n := 0) X rfl (show _ < 8 from (by first | decide | omega | assumption)) dL_put_20 ?_
  refine zr_eq (x2 := (nI L.length)) (hB.1) ?_
  refine zr_iconst (v := (4 : Int32)) X dL_put_21 (by decide) ?_
  refine zr_irem X dL_put_22 (by decide) ?_
  refine zr_eq (x2 := (nI (L.length % 4))) (pk_rem (a := L.length) (d := 4) (by omega) (by decide) (by decide)) ?_
  refine zr_imul X dL_put_23 ?_
  refine zr_eq (x2 := (nI (8 * (L.length % 4)))) (nI_mul (8) ((L.length % 4))) ?_
  refine zr_isub X dL_put_24 ?_
  refine zr_eq (x2 := (nI (24 - (8 * (L.length % 4))))) (pk_sub (a := 24) (b := (8 * (L.length % 4))) (by omega)) ?_
  refine zr_ishl X dL_put_25 ?_
  refine zr_ior X dL_put_26 ?_
  refine zr_iastN (n := (1 + ((L.length % 20) / 4))) X rfl (show _ < 8 from (by first | decide | omega | assumption)) dL_put_27 ?_
  refine zr_aload1 X dL_put_28 ?_
  refine zr_iconst (v := (0 : Int32)) X dL_put_29 (by decide) ?_
  refine zr_dup2 X dL_put_30 ?_
  refine zr_ialdN (n := 0) X rfl (show _ < 8 from (by first | decide | omega | assumption)) dL_put_31 ?_
  refine zr_eq (x2 := (nI L.length)) ((zput_nj (by omega)).trans hB.1) ?_
  refine zr_iconst (v := (1 : Int32)) X dL_put_32 (by decide) ?_
  refine zr_iadd X dL_put_33 ?_
  refine zr_eq (x2 := (nI (L.length + 1))) (nI_add (L.length) (1)) ?_
  refine zr_iastN (n := 0) X rfl (show _ < 8 from (by first | decide | omega | assumption)) dL_put_34 ?_
  refine zr_aload1 X dL_put_35 ?_
  refine zr_iconst (v := (0 : Int32)) X dL_put_36 (by decide) ?_
  refine zr_ialdN (n := 0) X rfl (show _ < 8 from (by first | decide | omega | assumption)) dL_put_37 ?_
  refine zr_eq (x2 := (nI (L.length + 1))) (zput_eq) ?_
  refine zr_bipush (v := (20 : Int32)) X dL_put_38 (by decide) ?_
  refine zr_irem X dL_put_40 (by decide) ?_
  refine zr_eq (x2 := (nI ((L.length + 1) % 20))) (pk_rem (a := (L.length + 1)) (d := 20) (by omega) (by decide) (by decide)) ?_
  refine zr_nif_ne X (((L.length + 1) % 20)) (tgt := 49) (by omega) dL_put_41 (by decide) (fun h1 => ?_) (fun h1 => ?_)
  · skip
    refine zr_vret X (by decide) (by decide) dL_put_49 ?_
    have hL9 : ∀ y ∈ L ++ [c9], y < 256 := fun y hy => by rcases List.mem_append.mp hy with h | h; exact hL y h; exact (List.mem_singleton.mp h) ▸ hc
    have e20 : (L ++ [c9]).length / 20 * 20 = L.length / 20 * 20 := by rw [List.length_append]; show (L.length + 1) / 20 * 20 = _; omega
    refine k1 _ ⟨t, by rw [e20]; exact (zCl.pw (zCl.pw hC hw) hw), fun i hi => ?_, ?_, hL9⟩ (zfw.put (zfw.put zfw.rf))
    · rw [zgd_app (by omega)]; exact ht i (by omega)
    · rw [e20]; exact zTw_put hB rfl zput_eq ((zput_nj (by omega)).trans zput_eq) (fun k h1 h2 => (zput_nj (by omega)).trans (zput_nj (by omega)))
  · skip
    refine zr_aload0 X dL_put_44 ?_
    refine zr_aload1 X dL_put_45 ?_
    refine zr_callS2 (rm9 := zrm_L_flush) X hnt zm_L_7 (by decide) (by decide) (by decide) (Nat.le_of_ble_eq_true rfl) dL_put_46 ?_
    refine zp_L_flush (f := L.length / 20 * 20) (t := t) (zCl.pw (zCl.pw hC hw) hw) hw (by omega) (fun J1 hF2 hF3 hF4 hF5 => ?_)
    refine zr_vret X (by decide) (by decide) dL_put_49 ?_
    have hL9 : ∀ y ∈ L ++ [c9], y < 256 := fun y hy => by rcases List.mem_append.mp hy with h | h; exact hL y h; exact (List.mem_singleton.mp h) ▸ hc
    have hn9 : (L ++ [c9]).length = L.length + 1 := List.length_append
    have hB9 := zTw_put (c := c9) (J := (zput (zput I (w) (1 + ((L.length % 20) / 4)) (((zwd L (L.length / 20 * 20 + 4 * (L.length % 20 / 4)) (L.length % 4)) ||| ((nI c9) <<< ((nI (24 - (8 * (L.length % 4)))) &&& 31))))) (w) 0 ((nI (L.length + 1))))) hB rfl zput_eq ((zput_nj (by omega)).trans zput_eq) (fun k h1 h2 => (zput_nj (by omega)).trans (zput_nj (by omega)))
    refine k1 _ (zTx_clean (I := I) (c := 0) hF2 (zTw_fl hB9 (fun i hi => (ht i hi).trans (zgd_app (by omega)).symm) hL9 (by omega)) (by omega) (by omega) (hF3.trans (zput_eq.trans (congrArg nI hn9.symm))) hF4 hL9) ((zfw.put (zfw.put zfw.rf)).tr hF5)
abbrev zrm_L_writeNumber : Room := { frames := 4, cells := 0, slots := 0, locals := 91 }
set_option maxRecDepth 20000 in
theorem zp_L_writeNumber {l : Launch} {D : va_G} {b0 : Nat} {tA : Nat → ClassId} {sa sv : Nat → Nat} {K : zKt} {I : zI} {Qp : zI → Option AV → Prop} {Xp : String → zI → Prop} {x w : Nat} {er : Int32} {S : zS} {U : List zS} {L : List Nat} {n9 : Nat}
    (hT : zTx I x w er S U L) (hw : w < x ∨ x + 501 ≤ w) (hn : n9 < 10) (hl : L.length < 440) (k1 : ∀ J : zI, zTx J x w er S U (L ++ [48 + n9]) → zfw I J x w → Qp J none) :
    zC l D b0 tA sa sv K yL_writeNumber (.code yL_writeNumber cL_writeNumber 4 none) zrm_L_writeNumber [vr (x) 7, vr (w) 19, vi ((nI n9))] I Qp Xp := by
  refine zC_of (by decide +kernel) (Nat.le_of_ble_eq_true rfl) ?_
  intro p e s m args below meth c X hnt
  have X : zX p l e zrm_L_writeNumber s m args below meth c RL cL_writeNumber 4 none D b0 tA sa sv := X
  refine zr_lv (lv2 := [some (vr (x) 7), some (vr (w) 19), some (vi ((nI n9))), none]) rfl ?_
  refine zr_iconst (v := (1 : Int32)) X dL_writeNumber_0 (by decide) ?_
  refine zr_istore3 X (by decide) rfl dL_writeNumber_1 ?_
  refine zr_iload3 X dL_writeNumber_2 ?_
  refine zr_iload2 X dL_writeNumber_3 ?_
  refine zr_bipush (v := (10 : Int32)) X dL_writeNumber_4 (by decide) ?_
  refine zr_idiv X dL_writeNumber_6 (by decide) ?_
  refine zr_eq (x2 := (nI (n9 / 10))) (pk_div (a := n9) (d := 10) (by omega) (by decide) (by decide)) ?_
  refine zr_nicmp_gt X (1) ((n9 / 10)) (tgt := 18) (by omega) (by omega) dL_writeNumber_7 (by decide) (fun h1 => ?_) (fun h1 => ?_)
  · skip
    refine zr_iload3 X dL_writeNumber_18 ?_
    refine zr_if_le (tgt := 44) X dL_writeNumber_19 (by decide) (fun h => absurd h (by decide)) (fun _ => ?_)
    refine zr_aload0 X dL_writeNumber_22 ?_
    refine zr_aload1 X dL_writeNumber_23 ?_
    refine zr_bipush (v := (48 : Int32)) X dL_writeNumber_24 (by decide) ?_
    refine zr_iload2 X dL_writeNumber_26 ?_
    refine zr_iload3 X dL_writeNumber_27 ?_
    refine zr_idiv X dL_writeNumber_28 (by decide) ?_
    refine zr_eq (x2 := (nI (n9 / 1))) (pk_div (a := n9) (d := 1) (by omega) (by decide) (by decide)) ?_
    refine zr_bipush (v := (10 : Int32)) X dL_writeNumber_29 (by decide) ?_
    refine zr_irem X dL_writeNumber_31 (by decide) ?_
    refine zr_eq (x2 := (nI ((n9 / 1) % 10))) (pk_rem (a := (n9 / 1)) (d := 10) (by omega) (by decide) (by decide)) ?_
    refine zr_iadd X dL_writeNumber_32 ?_
    refine zr_eq (x2 := (nI (48 + ((n9 / 1) % 10)))) (nI_add (48) (((n9 / 1) % 10))) ?_
    refine zr_callS3 (rm9 := zrm_L_put) X hnt zm_L_33 (by decide) (by decide) (by decide) (Nat.le_of_ble_eq_true rfl) dL_writeNumber_33 ?_
    refine zp_L_put (L := L) (c9 := (48 + ((n9 / 1) % 10))) hT hw (by omega) (by first | omega | (simp only [List.length_append, List.length_cons, List.length_nil]; omega)) (fun J6 hT7 hW8 => ?_)
    refine zr_iload3 X dL_writeNumber_36 ?_
    refine zr_bipush (v := (10 : Int32)) X dL_writeNumber_37 (by decide) ?_
    refine zr_idiv X dL_writeNumber_39 (by decide) ?_
    refine zr_eq (x2 := (0 : Int32)) (by decide) ?_
    refine zr_istore3 X (by decide) rfl dL_writeNumber_40 ?_
    refine zr_goto (tgt := 18) X dL_writeNumber_41 (by decide) ?_
    refine zr_iload3 X dL_writeNumber_18 ?_
    refine zr_if_le (tgt := 44) X dL_writeNumber_19 (by decide) (fun _ => ?_) (fun h => absurd h (by decide))
    refine zr_vret X (by decide) (by decide) dL_writeNumber_44 ?_
    rw [show 48 + n9 / 1 % 10 = 48 + n9 by omega] at hT7
    exact k1 _ hT7 hW8
  · exact absurd (show n9 / 10 < 1 by omega) h1
abbrev zrm_L_write : Room := { frames := 5, cells := 0, slots := 0, locals := 150 }
theorem zSW_len : ∀ i, i < 22 → (zSW.getD i []).length = zSL.getD i 0 := by decide
theorem zSW_lt : ∀ i, i < 22 → ∀ y ∈ zSW.getD i [], y < 256 := by decide
theorem zSL_le : ∀ i, i < 22 → zSL.getD i 0 ≤ 10 := by decide
theorem ztake {M : List Nat} {k : Nat} (h : k < M.length) : M.take (k + 1) = M.take k ++ [M.getD k 0] := by
  rw [List.take_succ, List.getD_eq_getElem?_getD, List.getElem?_eq_getElem h]; rfl
theorem zgd_lt {M : List Nat} {b k : Nat} (hb : 0 < b) (h : ∀ y ∈ M, y < b) : M.getD k 0 < b := by
  rw [List.getD_eq_getElem?_getD]
  cases e : M[k]? with
  | none => exact hb
  | some y => exact h y (List.mem_of_getElem? e)
set_option maxRecDepth 20000 in
theorem zl_L_write {l : Launch} {D : va_G} {b0 : Nat} {tA : Nat → ClassId} {sa sv : Nat → Nat} {K : zKt} {I : zI} {Qp : zI → Option AV → Prop} {Xp : String → zI → Prop} {p : Program} {e : Env} {s : State} {m : MethodId} {args : Array Value} {below : List Frame} {meth : Method} {c : Code} {x w : Nat} {er : Int32} {S : zS} {U : List zS} {L : List Nat} {i : Nat}
    (X : zX p l e zrm_L_write s m args below meth c RL cL_write 4 none D b0 tA sa sv) (hnt : ∀ x ∈ c.exceptionTable.toList, False) (hT : zTx I x w er S U L) (hw : w < x ∨ x + 501 ≤ w) (hi20 : i < 22) (hl : L.length < 430) (k1 : ∀ J : zI, zTx J x w er S U (L ++ zSW.getD i []) → zfw I J x w → Qp J none) :
    ∀ (n : Nat) (k : Nat) (J : zI), k ≤ zSL.getD i 0 → zTx J x w er S U (L ++ (zSW.getD i []).take k) → zfw I J x w → zSL.getD i 0 - k < n → zG p l e zrm_L_write s m args below meth c 4 D b0 tA sa 0 0 (zQ below D b0 tA sa K args s zrm_L_write Qp Xp) K 2 [some (vr (x) 7), some (vr (w) 19), some (vr (sa i) (24 + i)), some (vi ((nI k)))] [] J := by
  intro n
  induction n with
  | zero => intro k J i1 i2 i3 i4; exact absurd i4 (Nat.not_lt_zero _)
  | succ n ih =>
    intro k J i1 i2 i3 i4
    have hl9 := zSL_le i hi20
    have hm9 := zSW_len i hi20
    refine zr_iload3 X dL_write_2 ?_
    refine zr_aload2 X dL_write_3 ?_
    refine zr_callW0 (rm9 := zrm_J0_length_8abf5) X hnt (by omega) zm_L_23 (by decide) (by decide) (by decide) (Nat.le_of_ble_eq_true rfl) dL_write_4 ?_
    refine zp_J0_length_8abf5 (i := i) hi20 ?_
    refine zr_nicmp_ge X (k) ((zSL.getD i 0)) (tgt := 26) (by omega) (by omega) dL_write_7 (by decide) (fun h1 => ?_) (fun h1 => ?_)
    · skip
      refine zr_vret X (by decide) (by decide) dL_write_26 ?_
      have hk9 : k = (zSW.getD i []).length := by omega
      rw [hk9, List.take_length] at i2
      exact k1 _ i2 i3
    · skip
      refine zr_aload0 X dL_write_10 ?_
      refine zr_aload1 X dL_write_11 ?_
      refine zr_aload2 X dL_write_12 ?_
      refine zr_iload3 X dL_write_13 ?_
      refine zr_callW1 (rm9 := zrm_J0_charAt_5068e) X hnt (by omega) zm_L_29 (by decide) (by decide) (by decide) (Nat.le_of_ble_eq_true rfl) dL_write_14 ?_
      refine zp_J0_charAt_5068e (i := i) (k9 := k) hi20 (by omega) ?_
      refine zr_callS3 (rm9 := zrm_L_put) X hnt zm_L_33 (by decide) (by decide) (by decide) (Nat.le_of_ble_eq_true rfl) dL_write_17 ?_
      refine zp_L_put (L := (L ++ (zSW.getD i []).take k)) (c9 := ((zSW.getD i []).getD k 0)) i2 hw (zgd_lt (by decide) (zSW_lt i hi20)) (by rw [List.length_append, List.length_take]; omega) (fun J9 hT10 hW11 => ?_)
      refine zr_iinc3 (v := (nI (k + 1))) X (show nI (k) + Int32.ofInt 1 = nI (k + 1) from nI_1 (k)) (by decide) rfl dL_write_20 ?_
      refine zr_goto (tgt := 2) X dL_write_23 (by decide) ?_
      refine ih (k + 1) _ (by omega) ?_ (i3.tr hW11) (by omega)
      rw [ztake (by omega), ← List.append_assoc]; exact hT10
set_option maxRecDepth 20000 in
theorem zp_L_write {l : Launch} {D : va_G} {b0 : Nat} {tA : Nat → ClassId} {sa sv : Nat → Nat} {K : zKt} {I : zI} {Qp : zI → Option AV → Prop} {Xp : String → zI → Prop} {x w : Nat} {er : Int32} {S : zS} {U : List zS} {L : List Nat} {i : Nat}
    (hT : zTx I x w er S U L) (hw : w < x ∨ x + 501 ≤ w) (hi20 : i < 22) (hl : L.length < 430) (k1 : ∀ J : zI, zTx J x w er S U (L ++ zSW.getD i []) → zfw I J x w → Qp J none) :
    zC l D b0 tA sa sv K yL_write (.code yL_write cL_write 4 none) zrm_L_write [vr (x) 7, vr (w) 19, vr (sa i) (24 + i)] I Qp Xp := by
  have hl9 := zSL_le i hi20
  have hm9 := zSW_len i hi20
  refine zC_of (by decide +kernel) (Nat.le_of_ble_eq_true rfl) ?_
  intro p e s m args below meth c X hnt
  have X : zX p l e zrm_L_write s m args below meth c RL cL_write 4 none D b0 tA sa sv := X
  refine zr_lv (lv2 := [some (vr (x) 7), some (vr (w) 19), some (vr (sa i) (24 + i)), none]) rfl ?_
  refine zr_iconst (v := (0 : Int32)) X dL_write_0 (by decide) ?_
  refine zr_istore3 X (by decide) rfl dL_write_1 ?_
  exact zl_L_write X hnt hT hw hi20 hl k1 (zSL.getD i 0 + 1) 0 I (by omega) (by rw [List.take_zero, List.append_nil]; exact hT) zfw.rf (by omega)
theorem zload_ok {t : Nat → Nat} {f n : Nat} {er : Int32} {S S2 : zS} {U : List zS} (hf : n ≤ f) (hf5 : f ≤ 500) (hp : pLoad t n = .inr (n, S2)) : rLoad t f (nI n) = (0, sX S2 4) ∧ sLoad t f (nI n) S = S2 ∧ uLoad t f (nI n) S U = qPush S U ∧ fLoad f (nI n) = 0 ∧ eLoad t f (nI n) er = -1 := by
  have h := vIdx_is (n := f + 1) (k := n) (by omega) (by omega)
  refine ⟨?_, ?_, ?_, ?_, ?_⟩
  · unfold rLoad; rw [h]; dsimp only; rw [hp]
  · unfold sLoad; rw [h]; dsimp only; rw [hp]
  · unfold uLoad; rw [h]; dsimp only; rw [hp]
  · unfold fLoad; rw [h]
  · unfold eLoad; rw [h]; dsimp only; rw [hp]
abbrev zrm_L_loadText : Room := { frames := 11, cells := 1, slots := 6, locals := 273 }
set_option maxRecDepth 20000 in
theorem zp_L_loadText {l : Launch} {D : va_G} {b0 : Nat} {tA : Nat → ClassId} {sa sv : Nat → Nat} {K : zKt} {I : zI} {Qp : zI → Option AV → Prop} {Xp : String → zI → Prop} {x w : Nat} {er : Int32} {S : zS} {U : List zS} {L : List Nat} {S2 : zS}
    (hT : zTx I x w er S U L) (hw : w < x ∨ x + 501 ≤ w) (hl : L.length < 440) (hp : ∀ t : Nat → Nat, (∀ i, i < L.length → t i = L.getD i 0) → pLoad t L.length = .inr (L.length, S2)) (k1 : ∀ (J : zI) (t : Nat → Nat), zCl J J x t 0 (-1) S2 (qPush S U) → zfw I J x w → Qp J (some (vi (sX S2 4)))) :
    zC l D b0 tA sa sv K yL_loadText (.code yL_loadText cL_loadText 3 (some .int)) zrm_L_loadText [vr (x) 7, vr (w) 19] I Qp Xp := by
  obtain ⟨t, hC, ht, hB, hL⟩ := hT
  refine zC_of (by decide +kernel) (Nat.le_of_ble_eq_true rfl) ?_
  intro p e s m args below meth c X hnt
  have X : zX p l e zrm_L_loadText s m args below meth c RL cL_loadText 3 (some .int) D b0 tA sa sv := X
  refine zr_lv (lv2 := [some (vr (x) 7), some (vr (w) 19), none]) rfl ?_
  refine zr_aload1 X dL_loadText_0 ?_
  refine zr_iconst (v := (0 : Int32)) X dL_loadText_1 (by decide) ?_
  refine zr_ialdN (n := 0) X rfl (show _ < 8 from (by first | decide | omega | assumption)) dL_loadText_2 ?_
  refine zr_eq (x2 := (nI L.length)) (hB.1) ?_
  refine zr_istore2 X (by decide) rfl dL_loadText_3 ?_
  refine zr_iload2 X dL_loadText_4 ?_
  refine zr_bipush (v := (20 : Int32)) X dL_loadText_5 (by decide) ?_
  refine zr_irem X dL_loadText_7 (by decide) ?_
  refine zr_eq (x2 := (nI (L.length % 20))) (pk_rem (a := L.length) (d := 20) (by omega) (by decide) (by decide)) ?_
  refine zr_nif_le X ((L.length % 20)) (tgt := 16) (by omega) dL_loadText_8 (by decide) (fun h1 => ?_) (fun h1 => ?_)
  · skip
    refine zr_aload1 X dL_loadText_16 ?_
    refine zr_iconst (v := (0 : Int32)) X dL_loadText_17 (by decide) ?_
    refine zr_iconst (v := (0 : Int32)) X dL_loadText_18 (by decide) ?_
    refine zr_iastN (n := 0) X rfl (show _ < 8 from (by first | decide | omega | assumption)) dL_loadText_19 ?_
    refine zr_aload0 X dL_loadText_20 ?_
    refine zr_iload2 X dL_loadText_21 ?_
    refine zr_callSX (rm9 := zrm_L_load) (As := [vr (x) 7, vi ((nI L.length))]) (st := []) X zmh_L_19 rfl rfl ⟨by decide, Nat.le_of_ble_eq_true rfl⟩ ⟨by decide, by decide⟩ (Nat.le_of_ble_eq_true rfl) dL_loadText_22 ?_
    refine zL_load (zCl.pw hC hw) (fun J12 hJ13 => ?_)
    refine zr_iret X (by decide) (by decide) dL_loadText_25 ?_
    have hp9 := hp _ (fun i hi => ht i (by omega))
    obtain ⟨e1, e2, e3, e4, e5⟩ := zload_ok (er := er) (S := S) (U := U) (f := (L.length / 20 * 20)) (by omega) (by omega) hp9
    rw [e2, e3, e4, e5] at hJ13
    rw [e1]
    exact k1 _ _ hJ13.re (zfw.tr (zfw.rf.put) (fun q a b => hJ13.2.2.2.2.1.2 q a))
  · skip
    refine zr_aload0 X dL_loadText_11 ?_
    refine zr_aload1 X dL_loadText_12 ?_
    refine zr_callS2 (rm9 := zrm_L_flush) X hnt zm_L_7 (by decide) (by decide) (by decide) (Nat.le_of_ble_eq_true rfl) dL_loadText_13 ?_
    refine zp_L_flush (f := L.length / 20 * 20) (t := t) hC hw (by omega) (fun J14 hF15 hF16 hF17 hF18 => ?_)
    refine zr_aload1 X dL_loadText_16 ?_
    refine zr_iconst (v := (0 : Int32)) X dL_loadText_17 (by decide) ?_
    refine zr_iconst (v := (0 : Int32)) X dL_loadText_18 (by decide) ?_
    refine zr_iastN (n := 0) X rfl (show _ < 8 from (by first | decide | omega | assumption)) dL_loadText_19 ?_
    refine zr_aload0 X dL_loadText_20 ?_
    refine zr_iload2 X dL_loadText_21 ?_
    refine zr_callSX (rm9 := zrm_L_load) (As := [vr (x) 7, vi ((nI L.length))]) (st := []) X zmh_L_19 rfl rfl ⟨by decide, Nat.le_of_ble_eq_true rfl⟩ ⟨by decide, by decide⟩ (Nat.le_of_ble_eq_true rfl) dL_loadText_22 ?_
    refine zL_load (zCl.pw hF15 hw) (fun J19 hJ20 => ?_)
    refine zr_iret X (by decide) (by decide) dL_loadText_25 ?_
    have hp9 := hp _ (zTw_fl hB ht hL (by omega))
    obtain ⟨e1, e2, e3, e4, e5⟩ := zload_ok (er := er) (S := S) (U := U) (f := (L.length / 20 * 20 + 20)) (by omega) (by omega) hp9
    rw [e2, e3, e4, e5] at hJ20
    rw [e1]
    exact k1 _ _ hJ20.re (zfw.tr (hF18.put) (fun q a b => hJ20.2.2.2.2.1.2 q a))
