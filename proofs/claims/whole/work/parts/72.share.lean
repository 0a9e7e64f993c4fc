/-! ===== the law's case of the shares ===== -/
theorem zshare_n (S : zS) : vf_n32 (qShare S) := by
  unfold qShare
  split
  · unfold vf_n32; decide
  · rename_i h; exact zshare_ok _ _ h
theorem zshare_d (S : zS) : vf_n64 (FP.f2d (qShare S)) := (Jvm.Free.Fl.noNaN_f2d _).mpr (zshare_n S)
theorem zshare_c (S : zS) : Op.cmpValue (FP.dcmp (FP.f2d (qShare S)) (FP.f2d (qShare S))) .l = 0 := by
  have h := Jvm.Free.Fl.dcmp_of_noNaN64 (zshare_d S)
  generalize FP.dcmp (FP.f2d (qShare S)) (FP.f2d (qShare S)) = o at h ⊢
  rcases o with _ | _ | _ | _ <;> first | rfl | exact absurd h (by decide)
section ZLAW
variable {p : Program} {l : Launch} {e : Env} {s : State} {m : MethodId} {args : Array Value} {below : List Frame} {meth : Method} {c : Code} {cells slots : Nat} {Q : State → Prop}
variable {D : va_G} {b0 : Nat} {tA : Nat → ClassId} {sa sv : Nat → Nat} {K : Nat → Option Nat} {st : List AV} {I : zI}
set_option maxRecDepth 20000 in
theorem zl_c18 (X : zX p l e room_1 s m args below meth c RL cL_law 9 (some .boolean) D b0 tA sa sv) {x n : Nat} (hn : 6 * n + 6 ≤ sv 0) (hi : zLv x n I) (hf : cells ≤ 600000 ∧ slots ≤ 7280000)
    (kk : ∀ J : zI, zLv x (n + 1) J → zG p l e room_1 s m args below meth c 9 D b0 tA sa (cells + 3) (slots + 18) Q K 1710 [some (vr (sa 35) 53), some (vr x 7), some (vr (x + 501) 8), some (vr (x + 515) 17), some (vi (nI (6 * n))), none, none, none, none] [] J) : zG p l e room_1 s m args below meth c 9 D b0 tA sa cells slots Q K 1148 [some (vr (sa 35) 53), some (vr x 7), some (vr (x + 501) 8), some (vr (x + 515) 17), some (vi (nI (6 * n))), none, none, none, none] [] I := by
  obtain ⟨t, f, er, S, U, hC, hR, hP, hU⟩ := hi
  refine zr_aload1 X dL_law_1148 ?_
  refine zr_callVQ X zm_L_156 (rm9 := zrm_X7_followerShare) (As := []) (st := []) rfl rfl ⟨by decide, Nat.le_of_ble_eq_true rfl⟩ ⟨by show cells + 0 ≤ 601024; omega, by show slots + 0 ≤ 7293034; omega⟩ (Nat.le_of_ble_eq_true rfl) dL_law_1149 ?_
  refine zq_X7_followerShare hC ?_
  refine zr_f2d (st := []) X (zshare_d S) dL_law_1152 ?_
  refine zr_dstoreW (i := 5) X (by decide) (fun k9 h9 w9 hw9 => by cases (Nat.succ.inj h9 : k9 = 4); cases hw9; rfl) dL_law_1153 ?_
  refine zr_aload2 X dL_law_1155 ?_
  refine zr_callVQ X zm_L_160 (rm9 := zrm_X8_followerShare) (As := []) (st := []) rfl rfl ⟨by decide, Nat.le_of_ble_eq_true rfl⟩ ⟨by show cells + 0 ≤ 601024; omega, by show slots + 0 ≤ 7293034; omega⟩ (Nat.le_of_ble_eq_true rfl) dL_law_1156 ?_
  refine zM_followerShare (out := x + 515) hC hR (by omega) (by omega) (fun J2 hC2 hR2 => ?_)
  refine zr_f2d (st := []) X (zshare_d S) dL_law_1159 ?_
  refine zr_dstoreW (i := 7) X (by decide) (fun k9 h9 w9 hw9 => by cases (Nat.succ.inj h9 : k9 = 6); cases hw9; rfl) dL_law_1160 ?_
  refine zr_dloadW (i := 5) (x := FP.f2d (qShare S)) X rfl dL_law_1162 ?_
  refine zr_dloadW (i := 7) (x := FP.f2d (qShare S)) X rfl dL_law_1164 ?_
  refine zr_dcmp X dL_law_1166 ?_
  refine zr_eq (x2 := (0 : Int32)) (zshare_c S) ?_
  refine zr_if_eq (tgt := 1188) X dL_law_1167 (by decide) (fun _ => ?_) (fun h => absurd rfl h)
  refine zr_goto (tgt := 1710) X dL_law_1188 (by decide) ?_
  refine zr_forget (lv2 := [some (vr (sa 35) 53), some (vr x 7), some (vr (x + 501) 8), some (vr (x + 515) 17), some (vi (nI (6 * n))), none, none, none, none]) (fun j9 v9 h9 => by rcases j9 with _ | _ | _ | _ | _ | _ | _ | _ | _ | j9 <;> first | exact h9 | (simp at h9)) ?_
  refine zr_more (k := cells + 3) (n := slots + 18) (by show cells + 0 ≤ cells + 3; omega) (by show slots + 0 ≤ slots + 18; omega) ?_
  exact kk J2 (zLv.mk hC2 hR2 (hP.le (by omega)) (fun u hu => (hU u hu).le (by omega)))
end ZLAW
