/-! ===== the law's loop ===== -/
theorem zand31 (x : Int32) : ∃ k : Nat, k < 32 ∧ x &&& 31 = nI k := by
  refine ⟨x.toBitVec.toNat &&& 31, Nat.lt_succ_of_le Nat.and_le_right, ?_⟩
  apply Int32.toBitVec_inj.mp
  apply BitVec.eq_of_toNat_eq
  rw [Int32.toBitVec_and, BitVec.toNat_and]
  have h : x.toBitVec.toNat &&& 31 ≤ 31 := Nat.and_le_right
  show x.toBitVec.toNat &&& 31 = (x.toBitVec.toNat &&& 31) % 2 ^ 32
  omega
theorem zend_of {L n : Nat} (hL : L ≤ 3072) (hn : n ≤ 600) (h : ¬ nI L - 6 < nI (6 * n)) : 6 * n + 6 ≤ L := by
  by_cases h6 : 6 ≤ L
  · rw [show nI L - 6 = nI (L - 6) from pk_sub (a := L) (b := 6) h6, nI_ltI (by omega) (by omega)] at h
    omega
  · exfalso
    apply h
    have h0 : nI L - 6 < 0 := by
      rcases (by omega : L = 0 ∨ L = 1 ∨ L = 2 ∨ L = 3 ∨ L = 4 ∨ L = 5) with rfl | rfl | rfl | rfl | rfl | rfl <;> decide
    exact Int32.lt_of_lt_of_le h0 (nI_pos' (by omega))
section ZLAW
variable {p : Program} {l : Launch} {e : Env} {s : State} {m : MethodId} {args : Array Value} {below : List Frame} {meth : Method} {c : Code} {cells slots : Nat} {Q : State → Prop}
variable {D : va_G} {b0 : Nat} {tA : Nat → ClassId} {sa sv : Nat → Nat} {K : Nat → Option Nat} {st : List AV} {I : zI}
set_option maxRecDepth 20000 in
theorem zl_step (X : zX p l e room_1 s m args below meth c RL cL_law 9 (some .boolean) D b0 tA sa sv) {x n : Nat} (hn : 6 * n + 6 ≤ sv 0) (hi : zLv x n I) (hf : cells ≤ 600000 ∧ slots ≤ 7280000)
    (kk : ∀ J : zI, zLv x (n + 1) J → zG p l e room_1 s m args below meth c 9 D b0 tA sa (cells + 3) (slots + 18) Q K 1710 [some (vr (sa 35) 53), some (vr x 7), some (vr (x + 501) 8), some (vr (x + 515) 17), some (vi (nI (6 * n))), none, none, none, none] [] J) : zG p l e room_1 s m args below meth c 9 D b0 tA sa cells slots Q K 33 [some (vr (sa 35) 53), some (vr x 7), some (vr (x + 501) 8), some (vr (x + 515) 17), some (vi (nI (6 * n))), none, none, none, none] [] I := by
  refine zr_aload0 X dL_law_33 ?_
  refine zr_iload4 X dL_law_34 ?_
  refine zr_scr X (j := 6 * n) (by omega) dL_law_36 ?_
  refine zr_bipush (v := (31 : Int32)) X dL_law_37 (by decide) ?_
  refine zr_iand X dL_law_39 ?_
  obtain ⟨k, hk, e⟩ := zand31 (nI (sv (1 + 6 * n)))
  refine zr_eq (x2 := nI k) e ?_
  by_cases h28 : k < 28
  · rcases (by omega : k = 0 ∨ k = 1 ∨ k = 2 ∨ k = 3 ∨ k = 4 ∨ k = 5 ∨ k = 6 ∨ k = 7 ∨ k = 8 ∨ k = 9 ∨ k = 10 ∨ k = 11 ∨ k = 12 ∨ k = 13 ∨ k = 14 ∨ k = 15 ∨ k = 16 ∨ k = 17 ∨ k = 18 ∨ k = 19 ∨ k = 20 ∨ k = 21 ∨ k = 22 ∨ k = 23 ∨ k = 24 ∨ k = 25 ∨ k = 26 ∨ k = 27) with rfl | rfl | rfl | rfl | rfl | rfl | rfl | rfl | rfl | rfl | rfl | rfl | rfl | rfl | rfl | rfl | rfl | rfl | rfl | rfl | rfl | rfl | rfl | rfl | rfl | rfl | rfl | rfl
    · exact zr_tab X dL_law_40 (by decide) (by decide) (off := 128) (tgt := 168) rfl (by decide) (zl_c0 X hn hi hf kk)
    · exact zr_tab X dL_law_40 (by decide) (by decide) (off := 201) (tgt := 241) rfl (by decide) (zl_c1 X hn hi hf kk)
    · exact zr_tab X dL_law_40 (by decide) (by decide) (off := 257) (tgt := 297) rfl (by decide) (zl_c2 X hn hi hf kk)
    · exact zr_tab X dL_law_40 (by decide) (by decide) (off := 270) (tgt := 310) rfl (by decide) (zl_c3 X hn hi hf kk)
    · exact zr_tab X dL_law_40 (by decide) (by decide) (off := 326) (tgt := 366) rfl (by decide) (zl_c4 X hn hi hf kk)
    · exact zr_tab X dL_law_40 (by decide) (by decide) (off := 382) (tgt := 422) rfl (by decide) (zl_c5 X hn hi hf kk)
    · exact zr_tab X dL_law_40 (by decide) (by decide) (off := 450) (tgt := 490) rfl (by decide) (zl_c6 X hn hi hf kk)
    · exact zr_tab X dL_law_40 (by decide) (by decide) (off := 518) (tgt := 558) rfl (by decide) (zl_c7 X hn hi hf kk)
    · exact zr_tab X dL_law_40 (by decide) (by decide) (off := 598) (tgt := 638) rfl (by decide) (zl_c8 X hn hi hf kk)
    · exact zr_tab X dL_law_40 (by decide) (by decide) (off := 666) (tgt := 706) rfl (by decide) (zl_c9 X hn hi hf kk)
    · exact zr_tab X dL_law_40 (by decide) (by decide) (off := 746) (tgt := 786) rfl (by decide) (zl_c10 X hn hi hf kk)
    · exact zr_tab X dL_law_40 (by decide) (by decide) (off := 802) (tgt := 842) rfl (by decide) (zl_c11 X hn hi hf kk)
    · exact zr_tab X dL_law_40 (by decide) (by decide) (off := 858) (tgt := 898) rfl (by decide) (zl_c12 X hn hi hf kk)
    · exact zr_tab X dL_law_40 (by decide) (by decide) (off := 914) (tgt := 954) rfl (by decide) (zl_c13 X hn hi hf kk)
    · exact zr_tab X dL_law_40 (by decide) (by decide) (off := 970) (tgt := 1010) rfl (by decide) (zl_c14 X hn hi hf kk)
    · exact zr_tab X dL_law_40 (by decide) (by decide) (off := 1026) (tgt := 1066) rfl (by decide) (zl_c15 X hn hi hf kk)
    · exact zr_tab X dL_law_40 (by decide) (by decide) (off := 1039) (tgt := 1079) rfl (by decide) (zl_c16 X hn hi hf kk)
    · exact zr_tab X dL_law_40 (by decide) (by decide) (off := 1095) (tgt := 1135) rfl (by decide) (zl_c17 X hn hi hf kk)
    · exact zr_tab X dL_law_40 (by decide) (by decide) (off := 1108) (tgt := 1148) rfl (by decide) (zl_c18 X hn hi hf kk)
    · exact zr_tab X dL_law_40 (by decide) (by decide) (off := 1151) (tgt := 1191) rfl (by decide) (zl_c19 X hn hi hf kk)
    · exact zr_tab X dL_law_40 (by decide) (by decide) (off := 1231) (tgt := 1271) rfl (by decide) (zl_c20 X hn hi hf kk)
    · exact zr_tab X dL_law_40 (by decide) (by decide) (off := 1311) (tgt := 1351) rfl (by decide) (zl_c21 X hn hi hf kk)
    · exact zr_tab X dL_law_40 (by decide) (by decide) (off := 1395) (tgt := 1435) rfl (by decide) (zl_c22 X hn hi hf kk)
    · exact zr_tab X dL_law_40 (by decide) (by decide) (off := 1463) (tgt := 1503) rfl (by decide) (zl_c23 X hn hi hf kk)
    · exact zr_tab X dL_law_40 (by decide) (by decide) (off := 1531) (tgt := 1571) rfl (by decide) (zl_c24 X hn hi hf kk)
    · exact zr_tab X dL_law_40 (by decide) (by decide) (off := 1587) (tgt := 1627) rfl (by decide) (zl_c25 X hn hi hf kk)
    · exact zr_tab X dL_law_40 (by decide) (by decide) (off := 1643) (tgt := 1683) rfl (by decide) (zl_c26 X hn hi hf kk)
    · exact zr_tab X dL_law_40 (by decide) (by decide) (off := 1656) (tgt := 1696) rfl (by decide) (zl_c27 X hn hi hf kk)
  · refine zr_tabO (tgt := 1710) X dL_law_40 (Or.inr ?_) (by decide) ?_
    · rw [nI_toInt (by omega)]; omega
    · refine zr_more (k := cells + 3) (n := slots + 18) (by omega) (by omega) ?_
      obtain ⟨t, f, er, S, U, hC, hR, hP, hU⟩ := hi
      exact kk I (zLv.mk hC hR (hP.le (by omega)) (fun u hu => (hU u hu).le (by omega)))
theorem zl_loop (X : zX p l e room_1 s m args below meth c RL cL_law 9 (some .boolean) D b0 tA sa sv) {x : Nat} (kend : ∀ (J : zI) (n : Nat), zG p l e room_1 s m args below meth c 9 D b0 tA sa 601024 7293034 Q K 1716 [some (vr (sa 35) 53), some (vr x 7), some (vr (x + 501) 8), some (vr (x + 515) 17), some (vi (nI (6 * n))), none, none, none, none] [] J) : ∀ (d n cells slots : Nat) (I : zI), n + d = 520 → zLv x n I → cells ≤ 1000 + 3 * n → slots ≤ 10000 + 18 * n → zG p l e room_1 s m args below meth c 9 D b0 tA sa cells slots Q K 23 [some (vr (sa 35) 53), some (vr x 7), some (vr (x + 501) 8), some (vr (x + 515) 17), some (vi (nI (6 * n))), none, none, none, none] [] I
  | d, n, cells, slots, I, hd, hi, hc, hs => by
    have h3 := X.2.2.2.2.2.2.1.2.2.2.2.2.2.2.2.2.2.2.2.2
    refine zr_iload4 X dL_law_23 ?_
    refine zr_aload0 X dL_law_25 ?_
    refine zr_slen X dL_law_26 ?_
    refine zr_bipush (v := (6 : Int32)) X dL_law_27 (by decide) ?_
    refine zr_isub X dL_law_29 ?_
    refine zr_icmp_gt (tgt := 1716) X dL_law_30 (by decide) (fun _ => ?_) (fun h => ?_)
    · exact zr_more (by omega) (by omega) (kend I n)
    · have hn : 6 * n + 6 ≤ sv 0 := zend_of h3 (by omega) h
      refine zl_step X hn hi ⟨by omega, by omega⟩ (fun J hJ => ?_)
      refine zr_iinc4 X (v := nI (6 * (n + 1))) (by rw [show Int32.ofInt 6 = nI 6 by decide, nI_add]; rfl) (by decide) rfl dL_law_1710 ?_
      refine zr_goto (tgt := 23) X dL_law_1713 (by decide) ?_
      match d, hd with
      | 0, hd => omega
      | d + 1, hd => exact zl_loop X kend d (n + 1) _ _ J (by omega) hJ (by omega) (by omega)
end ZLAW
