/-! ===== pieces of the law's body ===== -/
theorem rState_le {S : zS} {v : Int32} : (rState S v).1 ≤ 4 := by
  unfold rState
  repeat' split
  all_goals exact Nat.le_of_ble_eq_true rfl
theorem rFind_le {S : zS} {t : Nat → Nat} {f : Nat} {v : Int32} : (rFind S t f v).1 ≤ 4 := by
  unfold rFind
  repeat' split
  all_goals exact Nat.le_of_ble_eq_true rfl
theorem rGate_le {S : zS} {u : Int32} {v : Int32} : (rGate S u v).1 ≤ 4 := by
  unfold rGate
  repeat' split
  all_goals exact Nat.le_of_ble_eq_true rfl
theorem rCard_le {S : zS} {u : Int32} {v : Int32} : (rCard S u v).1 ≤ 4 := by
  unfold rCard
  repeat' split
  all_goals exact Nat.le_of_ble_eq_true rfl
theorem rInLine_le {S : zS} {u : Int32} {v : Int32} {v3 : Int32} : (rInLine S u v v3).1 ≤ 4 := by
  unfold rInLine
  repeat' split
  all_goals exact Nat.le_of_ble_eq_true rfl
theorem rWhy_le {S : zS} {u : Int32} {v : Int32} : (rWhy S u v).1 ≤ 4 := by
  unfold rWhy
  repeat' split
  all_goals exact Nat.le_of_ble_eq_true rfl
theorem rWhyJoin_le {S : zS} {u : Int32} {v : Int32} {v3 : Int32} : (rWhyJoin S u v v3).1 ≤ 4 := by
  unfold rWhyJoin
  repeat' split
  all_goals exact Nat.le_of_ble_eq_true rfl
theorem rBest_le {S : zS} {v : Int32} : (rBest S v).1 ≤ 4 := by
  unfold rBest
  repeat' split
  all_goals exact Nat.le_of_ble_eq_true rfl
theorem rNext_le {S : zS} {u : Int32} : (rNext S u).1 ≤ 4 := by
  unfold rNext
  repeat' split
  all_goals exact Nat.le_of_ble_eq_true rfl
theorem rThrough_le {S : zS} {v : Int32} : (rThrough S v).1 ≤ 4 := by
  unfold rThrough
  repeat' split
  all_goals exact Nat.le_of_ble_eq_true rfl
theorem rInside_le {S : zS} {v : Int32} : (rInside S v).1 ≤ 4 := by
  unfold rInside
  repeat' split
  all_goals exact Nat.le_of_ble_eq_true rfl
theorem rFollow_le {S : zS} {v : Int32} : (rFollow S v).1 ≤ 4 := by
  unfold rFollow
  repeat' split
  all_goals exact Nat.le_of_ble_eq_true rfl
theorem rRank_le {S : zS} {v : Int32} : (rRank S v).1 ≤ 4 := by
  unfold rRank
  repeat' split
  all_goals exact Nat.le_of_ble_eq_true rfl
theorem rJoin_le {S : zS} {u : Int32} {v : Int32} {v3 : Int32} : (rJoin S u v v3).1 ≤ 4 := by
  unfold rJoin
  repeat' split
  all_goals exact Nat.le_of_ble_eq_true rfl
theorem rLeave_le {S : zS} {u : Int32} {v : Int32} {v3 : Int32} : (rLeave S u v v3).1 ≤ 4 := by
  unfold rLeave
  repeat' split
  all_goals exact Nat.le_of_ble_eq_true rfl
theorem rList_le {S : zS} {u : Int32} {b : Int32} : (rList S u b).1 ≤ 4 := by
  unfold rList
  repeat' split
  all_goals exact Nat.le_of_ble_eq_true rfl
theorem rCharge_le {S : zS} {u : Int32} {v : Int32} : (rCharge S u v).1 ≤ 4 := by
  unfold rCharge
  repeat' split
  all_goals exact Nat.le_of_ble_eq_true rfl
theorem rMode_le {S : zS} {u : Int32} {v : Int32} : (rMode S u v).1 ≤ 4 := by
  unfold rMode
  repeat' split
  all_goals exact Nat.le_of_ble_eq_true rfl
theorem rKey_le {S : zS} {v : Int32} : (rKey S v).1 ≤ 4 := by
  unfold rKey
  repeat' split
  all_goals exact Nat.le_of_ble_eq_true rfl
theorem rTick_le {S : zS} {v : Int32} : (rTick S v).1 ≤ 4 := by
  unfold rTick
  repeat' split
  all_goals exact Nat.le_of_ble_eq_true rfl
theorem rLoad_le {t : Nat → Nat} {f : Nat} {v : Int32} : (rLoad t f v).1 ≤ 4 := by
  unfold rLoad
  repeat' split
  all_goals exact Nat.le_of_ble_eq_true rfl
theorem zini_L : Cond.initialized RL ∈ zALL := zin (List.mem_append_right _ (List.mem_of_getElem? (i := 0) (by decide +kernel))) rfl
theorem zmh_107 : zMh RL 107 yL_state cL_state 4 (some .int) [(0, 9, 12, 13)] 3 := ⟨by decide +kernel, zin (List.mem_append_right _ (List.mem_of_getElem? (i := 786) (by decide +kernel))) rfl, zin (List.mem_append_right _ (List.mem_of_getElem? (i := 787) (by decide +kernel))) rfl, zini_L, zin (List.mem_append_right _ (List.mem_of_getElem? (i := 788) (by decide +kernel))) rfl⟩
theorem zmh_110 : zMh RL 110 yL_find cL_find 4 (some .int) [(0, 9, 12, 13)] 3 := ⟨by decide +kernel, zin (List.mem_append_right _ (List.mem_of_getElem? (i := 794) (by decide +kernel))) rfl, zin (List.mem_append_right _ (List.mem_of_getElem? (i := 795) (by decide +kernel))) rfl, zini_L, zin (List.mem_append_right _ (List.mem_of_getElem? (i := 796) (by decide +kernel))) rfl⟩
theorem zmh_113 : zMh RL 113 yL_gate cL_gate 5 (some .int) [(0, 10, 13, 25), (0, 10, 17, 13)] 4 := ⟨by decide +kernel, zin (List.mem_append_right _ (List.mem_of_getElem? (i := 806) (by decide +kernel))) rfl, zin (List.mem_append_right _ (List.mem_of_getElem? (i := 807) (by decide +kernel))) rfl, zini_L, zin (List.mem_append_right _ (List.mem_of_getElem? (i := 808) (by decide +kernel))) rfl⟩
theorem zmh_117 : zMh RL 117 yL_card cL_card 5 (some .int) [(0, 10, 13, 25), (0, 10, 17, 13)] 4 := ⟨by decide +kernel, zin (List.mem_append_right _ (List.mem_of_getElem? (i := 835) (by decide +kernel))) rfl, zin (List.mem_append_right _ (List.mem_of_getElem? (i := 836) (by decide +kernel))) rfl, zini_L, zin (List.mem_append_right _ (List.mem_of_getElem? (i := 837) (by decide +kernel))) rfl⟩
theorem zmh_120 : zMh RL 120 yL_inLine cL_inLine 6 (some .int) [(0, 12, 15, 25), (0, 12, 19, 13), (0, 12, 23, 34)] 5 := ⟨by decide +kernel, zin (List.mem_append_right _ (List.mem_of_getElem? (i := 848) (by decide +kernel))) rfl, zin (List.mem_append_right _ (List.mem_of_getElem? (i := 849) (by decide +kernel))) rfl, zini_L, zin (List.mem_append_right _ (List.mem_of_getElem? (i := 850) (by decide +kernel))) rfl⟩
theorem zmh_124 : zMh RL 124 yL_why cL_why 5 (some .int) [(0, 10, 13, 25), (0, 10, 17, 13)] 4 := ⟨by decide +kernel, zin (List.mem_append_right _ (List.mem_of_getElem? (i := 878) (by decide +kernel))) rfl, zin (List.mem_append_right _ (List.mem_of_getElem? (i := 879) (by decide +kernel))) rfl, zini_L, zin (List.mem_append_right _ (List.mem_of_getElem? (i := 880) (by decide +kernel))) rfl⟩
theorem zmh_127 : zMh RL 127 yL_whyNotJoin cL_whyNotJoin 6 (some .int) [(0, 12, 15, 25), (0, 12, 19, 13)] 5 := ⟨by decide +kernel, zin (List.mem_append_right _ (List.mem_of_getElem? (i := 886) (by decide +kernel))) rfl, zin (List.mem_append_right _ (List.mem_of_getElem? (i := 887) (by decide +kernel))) rfl, zini_L, zin (List.mem_append_right _ (List.mem_of_getElem? (i := 888) (by decide +kernel))) rfl⟩
theorem zmh_130 : zMh RL 130 yL_bestGate cL_bestGate 4 (some .int) [(0, 9, 12, 13)] 3 := ⟨by decide +kernel, zin (List.mem_append_right _ (List.mem_of_getElem? (i := 898) (by decide +kernel))) rfl, zin (List.mem_append_right _ (List.mem_of_getElem? (i := 899) (by decide +kernel))) rfl, zini_L, zin (List.mem_append_right _ (List.mem_of_getElem? (i := 900) (by decide +kernel))) rfl⟩
theorem zmh_133 : zMh RL 133 yL_nextSide cL_nextSide 4 (some .int) [(0, 9, 12, 25)] 3 := ⟨by decide +kernel, zin (List.mem_append_right _ (List.mem_of_getElem? (i := 906) (by decide +kernel))) rfl, zin (List.mem_append_right _ (List.mem_of_getElem? (i := 907) (by decide +kernel))) rfl, zini_L, zin (List.mem_append_right _ (List.mem_of_getElem? (i := 908) (by decide +kernel))) rfl⟩
theorem zmh_136 : zMh RL 136 yL_throughIn cL_throughIn 4 (some .int) [(0, 9, 12, 25)] 3 := ⟨by decide +kernel, zin (List.mem_append_right _ (List.mem_of_getElem? (i := 914) (by decide +kernel))) rfl, zin (List.mem_append_right _ (List.mem_of_getElem? (i := 915) (by decide +kernel))) rfl, zini_L, zin (List.mem_append_right _ (List.mem_of_getElem? (i := 916) (by decide +kernel))) rfl⟩
theorem zmh_139 : zMh RL 139 yL_insideIn cL_insideIn 4 (some .int) [(0, 9, 12, 13)] 3 := ⟨by decide +kernel, zin (List.mem_append_right _ (List.mem_of_getElem? (i := 923) (by decide +kernel))) rfl, zin (List.mem_append_right _ (List.mem_of_getElem? (i := 924) (by decide +kernel))) rfl, zini_L, zin (List.mem_append_right _ (List.mem_of_getElem? (i := 925) (by decide +kernel))) rfl⟩
theorem zmh_142 : zMh RL 142 yL_followersIn cL_followersIn 4 (some .int) [(0, 9, 12, 13)] 3 := ⟨by decide +kernel, zin (List.mem_append_right _ (List.mem_of_getElem? (i := 934) (by decide +kernel))) rfl, zin (List.mem_append_right _ (List.mem_of_getElem? (i := 935) (by decide +kernel))) rfl, zini_L, zin (List.mem_append_right _ (List.mem_of_getElem? (i := 936) (by decide +kernel))) rfl⟩
theorem zmh_149 : zMh RL 149 yL_ranked cL_ranked 4 (some .int) [(0, 9, 12, 34)] 3 := ⟨by decide +kernel, zin (List.mem_append_right _ (List.mem_of_getElem? (i := 941) (by decide +kernel))) rfl, zin (List.mem_append_right _ (List.mem_of_getElem? (i := 942) (by decide +kernel))) rfl, zini_L, zin (List.mem_append_right _ (List.mem_of_getElem? (i := 943) (by decide +kernel))) rfl⟩
theorem zmh_161 : zMh RL 161 yL_join cL_join 6 (some .int) [(0, 12, 15, 25), (0, 12, 19, 13)] 5 := ⟨by decide +kernel, zin (List.mem_append_right _ (List.mem_of_getElem? (i := 953) (by decide +kernel))) rfl, zin (List.mem_append_right _ (List.mem_of_getElem? (i := 954) (by decide +kernel))) rfl, zini_L, zin (List.mem_append_right _ (List.mem_of_getElem? (i := 955) (by decide +kernel))) rfl⟩
theorem zmh_164 : zMh RL 164 yL_leave cL_leave 6 (some .int) [(0, 12, 15, 25), (0, 12, 19, 13), (0, 12, 23, 34), (0, 12, 27, 66)] 5 := ⟨by decide +kernel, zin (List.mem_append_right _ (List.mem_of_getElem? (i := 961) (by decide +kernel))) rfl, zin (List.mem_append_right _ (List.mem_of_getElem? (i := 962) (by decide +kernel))) rfl, zini_L, zin (List.mem_append_right _ (List.mem_of_getElem? (i := 963) (by decide +kernel))) rfl⟩
theorem zmh_167 : zMh RL 167 yL_list cL_list 5 (some .int) [(0, 10, 13, 25)] 4 := ⟨by decide +kernel, zin (List.mem_append_right _ (List.mem_of_getElem? (i := 990) (by decide +kernel))) rfl, zin (List.mem_append_right _ (List.mem_of_getElem? (i := 991) (by decide +kernel))) rfl, zini_L, zin (List.mem_append_right _ (List.mem_of_getElem? (i := 992) (by decide +kernel))) rfl⟩
theorem zmh_171 : zMh RL 171 yL_charge cL_charge 5 (some .int) [(0, 10, 13, 25), (0, 10, 17, 13), (0, 10, 21, 66)] 4 := ⟨by decide +kernel, zin (List.mem_append_right _ (List.mem_of_getElem? (i := 1001) (by decide +kernel))) rfl, zin (List.mem_append_right _ (List.mem_of_getElem? (i := 1002) (by decide +kernel))) rfl, zini_L, zin (List.mem_append_right _ (List.mem_of_getElem? (i := 1003) (by decide +kernel))) rfl⟩
theorem zmh_174 : zMh RL 174 yL_mode cL_mode 5 (some .int) [(0, 10, 13, 25), (0, 10, 17, 13), (0, 10, 21, 66)] 4 := ⟨by decide +kernel, zin (List.mem_append_right _ (List.mem_of_getElem? (i := 1010) (by decide +kernel))) rfl, zin (List.mem_append_right _ (List.mem_of_getElem? (i := 1011) (by decide +kernel))) rfl, zini_L, zin (List.mem_append_right _ (List.mem_of_getElem? (i := 1012) (by decide +kernel))) rfl⟩
theorem zmh_177 : zMh RL 177 yL_key cL_key 4 (some .int) [(0, 9, 12, 13)] 3 := ⟨by decide +kernel, zin (List.mem_append_right _ (List.mem_of_getElem? (i := 1025) (by decide +kernel))) rfl, zin (List.mem_append_right _ (List.mem_of_getElem? (i := 1026) (by decide +kernel))) rfl, zini_L, zin (List.mem_append_right _ (List.mem_of_getElem? (i := 1027) (by decide +kernel))) rfl⟩
theorem zmh_180 : zMh RL 180 yL_tick cL_tick 4 (some .int) [(0, 9, 12, 13)] 3 := ⟨by decide +kernel, zin (List.mem_append_right _ (List.mem_of_getElem? (i := 1035) (by decide +kernel))) rfl, zin (List.mem_append_right _ (List.mem_of_getElem? (i := 1036) (by decide +kernel))) rfl, zini_L, zin (List.mem_append_right _ (List.mem_of_getElem? (i := 1037) (by decide +kernel))) rfl⟩
theorem zmh_93 : zMh RL 93 yL_load cL_load 4 (some .int) [(0, 9, 12, 13)] 3 := ⟨by decide +kernel, zin (List.mem_append_right _ (List.mem_of_getElem? (i := 449) (by decide +kernel))) rfl, zin (List.mem_append_right _ (List.mem_of_getElem? (i := 450) (by decide +kernel))) rfl, zini_L, zin (List.mem_append_right _ (List.mem_of_getElem? (i := 451) (by decide +kernel))) rfl⟩
section ZLAW
variable {p : Program} {l : Launch} {e : Env} {s : State} {m : MethodId} {args : Array Value} {below : List Frame} {meth : Method} {c : Code} {cells slots : Nat} {Q : State → Prop}
variable {D : va_G} {b0 : Nat} {tA : Nat → ClassId} {sa sv : Nat → Nat} {K : Nat → Option Nat} {st : List AV} {I : zI}
/-- the k-th number of step n of the script -/
def zAr (sv : Nat → Nat) (n k : Nat) : Int32 := nI (sv (1 + (6 * n + k)))
theorem zr_S (X : zX p l e room_1 s m args below meth c RL cL_law 9 (some .boolean) D b0 tA sa sv) {pc n k : Nat} {a1 a2 a3 : Option AV} {r : List (Option AV)} (hn : 6 * n + 6 ≤ sv 0) (hk : 1 ≤ k ∧ k < 6) (d0 : decode cL_law pc = .ok (.aload_n 0, 1)) (d1 : decode cL_law (pc + 1) = .ok (.iload 4, 2)) (d3 : decode cL_law (pc + 3) = .ok (.iconst (k : Int), 1)) (d4 : decode cL_law (pc + 4) = .ok (.iadd, 1)) (d5 : decode cL_law (pc + 5) = .ok (.iaload, 1))
    (kk : zG p l e room_1 s m args below meth c 9 D b0 tA sa cells slots Q K (pc + 6) (some (vr (sa 35) 53) :: a1 :: a2 :: a3 :: some (vi (nI (6 * n))) :: r) (vi (zAr sv n k) :: st) I) : zG p l e room_1 s m args below meth c 9 D b0 tA sa cells slots Q K pc (some (vr (sa 35) 53) :: a1 :: a2 :: a3 :: some (vi (nI (6 * n))) :: r) st I := by
  refine zr_aload0 X d0 ?_
  refine zr_iload4 X d1 ?_
  refine zr_iconst (v := nI k) X d3 rfl ?_
  refine zr_iadd X d4 ?_
  refine zr_eq (x2 := nI (6 * n + k)) (nI_add _ _) ?_
  exact zr_scr X (by omega) d5 kk
theorem zr_tail (X : zX p l e room_1 s m args below meth c RL cL_law 9 (some .boolean) D b0 tA sa sv) {P y out r1 : Nat} {r2 v9 : Int32} {off : Int} {a0 a1 a4 : Option AV} {lr : List (Option AV)}
    (d0 : decode cL_law P = .ok (.aload_n 2, 1)) (d1 : decode cL_law (P + 1) = .ok (.invokevirtual 99, 3)) (d4 : decode cL_law (P + 4) = .ok (.iload 5, 2)) (d6 : decode cL_law (P + 6) = .ok (.if_icmp .eq 5, 3)) (d11 : decode cL_law (P + 11) = .ok (.iload 5, 2)) (d13 : decode cL_law (P + 13) = .ok (.ifCond .ne 15, 3)) (d16 : decode cL_law (P + 16) = .ok (.aload_n 3, 1)) (d17 : decode cL_law (P + 17) = .ok (.iconst 0, 1)) (d18 : decode cL_law (P + 18) = .ok (.laload, 1)) (d19 : decode cL_law (P + 19) = .ok (.iload 6, 2)) (d21 : decode cL_law (P + 21) = .ok (.i2l, 1)) (d22 : decode cL_law (P + 22) = .ok (.lcmp, 1)) (d23 : decode cL_law (P + 23) = .ok (.ifCond .eq 5, 3)) (d28 : decode cL_law (P + 28) = .ok (.goto off, 3)) (ht : (((P + 28 : Nat) : Int)) + off = ((1710 : Nat) : Int))
    (hle : r1 ≤ 4) (h0 : I y 0 = nI r1) (hv : r1 = 0 → v9 = r2) (hw : r1 = 0 → I out 0 = r2) (hf : cells ≤ 601000 ∧ slots ≤ 7290000)
    (kk : zG p l e room_1 s m args below meth c 9 D b0 tA sa cells slots Q K 1710 (a0 :: a1 :: some (vr y 8) :: some (vr out 17) :: a4 :: some (vi (nI r1)) :: some (vi v9) :: lr) [] I) : zG p l e room_1 s m args below meth c 9 D b0 tA sa cells slots Q K P (a0 :: a1 :: some (vr y 8) :: some (vr out 17) :: a4 :: some (vi (nI r1)) :: some (vi v9) :: lr) [] I := by
  refine zr_aload2 X d0 ?_
  refine zr_callVQ X zm_L_99 (rm9 := zrm_X8_thrown) (As := []) (st := []) rfl rfl ⟨by decide, Nat.le_of_ble_eq_true rfl⟩ ⟨by show cells + 0 ≤ 601024; omega, by show slots + 0 ≤ 7293034; omega⟩ (Nat.le_of_ble_eq_true rfl) d1 ?_
  refine zp_X8_thrown ?_
  refine zr_eq (st := []) (x2 := nI r1) h0 ?_
  refine zr_iload5 X d4 ?_
  refine zr_icmp_eq (tgt := P + 11) X d6 (by omega) (fun _ => ?_) (fun h => absurd rfl h)
  refine zr_iload5 X d11 ?_
  refine zr_if_ne (tgt := P + 28) X d13 (by omega) (fun _ => ?_) (fun h => ?_)
  · exact zr_goto (tgt := 1710) X d28 ht kk
  · have h9 : r1 = 0 := by
      by_cases q : r1 = 0
      · exact q
      · exact absurd h (nI_ne0 (by omega) (by omega))
    obtain rfl := hv h9
    have hw := hw h9
    refine zr_aload3 X d16 ?_
    refine zr_iconst (v := (0 : Int32)) X d17 (by decide) ?_
    refine zr_lald X d18 ?_
    refine zr_iload6 X d19 ?_
    refine zr_i2l X d21 ?_
    rw [hw]
    refine zr_lcmp X d22 ?_
    refine zr_if_eq (tgt := P + 28) X d23 (by omega) (fun _ => ?_) (fun h => absurd rfl h)
    exact zr_goto (tgt := 1710) X d28 ht kk
/-- both sides stand alike at step n -/
def zLv (x n : Nat) (I : zI) : Prop := ∃ (t : Nat → Nat) (f : Nat) (er : Int32) (S : zS) (U : List zS), zCl I I x t f er S U ∧ zRf I I (x + 501) t f er S U ∧ zPb (1200000 + 2400 * n) S ∧ ∀ u ∈ U, zPb (1200000 + 2400 * n) u
theorem zLv.mk {x n f : Nat} {t : Nat → Nat} {er : Int32} {S : zS} {U : List zS} {J : zI} (hC : zCl J J x t f er S U) (hR : zRf J J (x + 501) t f er S U) (hP : zPb (1200000 + 2400 * n + 2400) S) (hU : ∀ u ∈ U, zPb (1200000 + 2400 * n + 2400) u) : zLv x (n + 1) J := ⟨t, f, er, S, U, hC, hR, hP.le (by omega), fun u hu => (hU u hu).le (by omega)⟩
end ZLAW
