/-! ===== the class is made ===== -/
def kupC (K : zKt) (z : Nat) : zKt := (fun q => if z ≤ q ∧ q < z + 501 then some (kC (q - z)) else K.1 q, fun q j => if z ≤ q ∧ q < z + 501 then none else K.2 q j)
def zzC (I : zI) (z : Nat) : zI := fun q j => if z ≤ q ∧ q < z + 501 then iC (q - z) j else I q j
theorem kupC_at {K : zKt} {z d : Nat} (h : d < 501) : (kupC K z).1 (z + d) = some (kC d) := by unfold kupC; dsimp only; rw [if_pos ⟨by omega, by omega⟩, Nat.add_sub_cancel_left]
theorem kupC_2at {K : zKt} {z d j : Nat} (h : d < 501) : (kupC K z).2 (z + d) j = none := by unfold kupC; dsimp only; rw [if_pos ⟨by omega, by omega⟩]
theorem kupC_old {K : zKt} {z q : Nat} (h : q < z ∨ z + 501 ≤ q) : (kupC K z).1 q = K.1 q := if_neg (by omega)
theorem kupC_old2 {K : zKt} {z q j : Nat} (h : q < z ∨ z + 501 ≤ q) : (kupC K z).2 q j = K.2 q j := if_neg (by omega)
theorem zzC_at {I : zI} {z d j : Nat} (h : d < 501) : zzC I z (z + d) j = iC d j := by unfold zzC; rw [if_pos ⟨by omega, by omega⟩, Nat.add_sub_cancel_left]
theorem zzC_old {I : zI} {z q : Nat} (h : q < z ∨ z + 501 ≤ q) : zzC I z q = I q := by funext j; exact if_neg (by omega)
theorem kupC_ex {K : zKt} {z : Nat} (hz : kfr K z) : kex K (kupC K z) := fun a k h => (kupC_old (Or.inl (hz a k h))).trans h
theorem zfk_16 {k j : Nat} {q : Nat × Nat} (h : zfk k j = some q) : j < 16 := by
  unfold zfk at h
  split at h <;> first | (simp at h; done) | omega
theorem zfb_16 {k j : Nat} (hk : k < 14) (h : zfb k j = true) : j < 16 := by
  unfold zfb at h
  split at h <;> first | (simp at h; done) | omega
def kC_t (d : Nat) : Bool := decide (kC d < 14) && (List.range 16).all (fun j => (match zfk (kC d) j with | none => true | some q => decide (d + q.1 < 501) && decide (kC (d + q.1) = q.2)) && (!(zfb (kC d) j) || decide (iC d j = 0))) && (!(zaq (kC d)) || (List.range (zan (kC d))).all (fun j => decide (d + (zak (kC d)).1 + (zak (kC d)).2.1 * j < 501) && decide (kC (d + (zak (kC d)).1 + (zak (kC d)).2.1 * j) = (zak (kC d)).2.2)))
theorem kC_ok : (List.range 501).all kC_t = true := by decide +kernel
theorem zinv_upC {K : zKt} {I : zI} {z : Nat} (hi : zinv K I) (hz : kfr K z) : zinv (kupC K z) (zzC I z) := by
  have hx := kupC_ex hz
  intro a k hk
  by_cases ha : z ≤ a ∧ a < z + 501
  · obtain ⟨d, rfl⟩ : ∃ d, a = z + d := ⟨a - z, by omega⟩
    have hd : d < 501 := by omega
    rw [kupC_at hd] at hk
    obtain rfl : kC d = k := Option.some.inj hk
    have h := List.all_eq_true.mp kC_ok d (List.mem_range.mpr hd)
    unfold kC_t at h
    simp only [Bool.and_eq_true, decide_eq_true_eq] at h
    obtain ⟨⟨h1, h2⟩, h3⟩ := h
    refine ⟨by omega, fun j q hq => ?_, fun hy j hj => ?_, fun j hb => ?_, fun j q r _ h9 => ?_, fun j q r _ h9 => ?_⟩
    · have h4 := List.all_eq_true.mp h2 j (List.mem_range.mpr (zfk_16 hq))
      rw [hq] at h4
      simp only [Bool.and_eq_true, decide_eq_true_eq] at h4
      rw [Nat.add_assoc, kupC_at h4.1.1, h4.1.2]
    · rw [hy] at h3
      simp only [Bool.not_true, Bool.false_or] at h3
      have h4 := List.all_eq_true.mp h3 j (List.mem_range.mpr hj)
      simp only [Bool.and_eq_true, decide_eq_true_eq] at h4
      rw [Nat.add_assoc z, Nat.add_assoc z, kupC_at h4.1, h4.2]
    · have h4 := List.all_eq_true.mp h2 j (List.mem_range.mpr (zfb_16 h1 hb))
      rw [hb] at h4
      simp only [Bool.and_eq_true, Bool.not_true, Bool.false_or, decide_eq_true_eq] at h4
      rw [zzC_at hd]
      exact Or.inl h4.2
    · rw [kupC_2at hd] at h9; cases h9
    · rw [kupC_2at hd] at h9; cases h9
  · have ho : a < z ∨ z + 501 ≤ a := by omega
    rw [kupC_old ho] at hk
    obtain ⟨g1, g2, g3, g4, g5, g6⟩ := hi a k hk
    refine ⟨g1, fun j q h => hx _ _ (g2 j q h), fun h j hj => hx _ _ (g3 h j hj), fun j h => ?_, fun j q r h h9 => ?_, fun j q r h h9 => ?_⟩
    · rw [zzC_old ho]; exact g4 j h
    · rw [kupC_old2 ho] at h9; exact hx _ _ (g5 j q r h h9)
    · rw [kupC_old2 ho] at h9; exact hx _ _ (g6 j q r h h9)
theorem zEof_upC {tA : Nat → ClassId} {K : zKt} {I : zI} {z : Nat} {E1 E2 : zE} (o1 : ∀ q, q ≠ z → E1 q = zEof tA K I q) (h2 : zBk tA kC iC E2 z 501) (o2 : zOut E1 E2 z 501) : ∀ q e, zEof tA (kupC K z) (zzC I z) q = some e → E2 q = some e := by
  intro q e h
  by_cases hq : z ≤ q ∧ q < z + 501
  · obtain ⟨d, rfl⟩ : ∃ d, q = z + d := ⟨q - z, by omega⟩
    have hd : d < 501 := by omega
    rw [zEof_at (kupC_at (K := K) (z := z) hd)] at h
    rw [h2 d hd, ← h]
    congr 2
    · funext j; exact (kupC_2at hd).symm
    · funext j; exact (zzC_at hd).symm
  · have ho : q < z ∨ z + 501 ≤ q := by omega
    rw [o2 q ho, o1 q (by omega)]
    rw [zEof, kupC_old ho, zzC_old ho, show (kupC K z).2 q = K.2 q from funext fun j => kupC_old2 ho] at h
    exact h
theorem zcl_LL_14 : Cond.classLink RL 14 RX7 ∈ zALL := zin (List.mem_append_right _ (List.mem_of_getElem? (i := 27) (by decide +kernel))) rfl
theorem zins_X7 : Cond.instantiable RX7 7 ∈ zALL := zin (List.mem_append_right _ (List.mem_of_getElem? (i := 28) (by decide +kernel))) rfl
theorem zdf_X7 : ∀ j, j < 7 → defaultValue (tyX7 j) = vp_V [.null, .null, .null, .null, .null, .null, .int 0] j := by decide +kernel
theorem ziw_L_262 : zIw RL 262 yX7_init cX7_init 1 := ⟨by decide +kernel, rfl, Or.inl (zin (List.mem_append_right _ (List.mem_of_getElem? (i := 29) (by decide +kernel))) rfl), zin (List.mem_append_right _ (List.mem_of_getElem? (i := 30) (by decide +kernel))) rfl, zini_X7, zin (List.mem_append_right _ (List.mem_of_getElem? (i := 31) (by decide +kernel))) rfl⟩
section ZMC
variable {p : Program} {l : Launch} {e : Env} {R : Room} {s : State} {m : MethodId} {args : Array Value} {below : List Frame} {meth : Method} {c : Code} {cells slots : Nat} {Q : State → Prop}
variable {cc : ByteArray} {pc nL : Nat} {D : va_G} {b0 : Nat} {tA : Nat → ClassId} {sa sv : Nat → Nat} {K : zKt} {own : String} {ret : Option FieldType} {lv : List (Option AV)} {st : List AV} {I : zI}
theorem zr_newClass (X : zX p l e R s m args below meth c RL cc nL ret D b0 tA sa sv) (hR : zrm_X7_init.frames + 1 ≤ R.frames ∧ 8 + (1 + 11) + zrm_X7_init.locals ≤ R.locals) (hf : cells + 1 + zrm_X7_init.cells ≤ R.cells ∧ slots + 7 + zrm_X7_init.slots ≤ R.slots) (hw : ((st.map zv).map fun v => v.category).sum ≤ 7) (hd0 : decode cc pc = .ok (.new 14, 3)) (hd1 : decode cc (pc + 3) = .ok (.dup, 1)) (hd2 : decode cc (pc + 3 + 1) = .ok (.invokespecial 262, 3))
    (kk : ∀ z : Nat, kfr K z → b0 ≤ z → zG p l e R s m args below meth c nL D b0 tA sa (cells + 1 + zrm_X7_init.cells) (slots + 7 + zrm_X7_init.slots) Q (kupC K z) (pc + 3 + 1 + 3) lv (vr z 7 :: st) (zzC I z)) : zG p l e R s m args below meth c nL D b0 tA sa cells slots Q K pc lv st I := by
  refine zG_zB X (fun hi hs hl z hz hb => ?_)
  have hx := kupC_ex hz
  refine zb_new X zin_X7 (ci := 7) rfl tyX7_ok zcl_LL_14 zins_X7 zini_X7 zdf_X7 ⟨by omega, by omega⟩ hd0 (fun E1 h1 o1 => ?_)
  refine zb_dup X hd1 ?_
  refine zb_init X (rm9 := zrm_X7_init) ziw_L_262 (zX_ta X) hR hf ?_ hd2 (zi_X7 h1) (fun E2 g2 => ?_)
  · show 1 + ((st.map zv).map fun v => v.category).sum ≤ 8
    omega
  · exact zB_zG (st := vr z 7 :: st) (zinv_upC hi hz) ⟨Or.inl ⟨by show (7 : Nat) < 24; decide, by have := kupC_at (K := K) (z := z) (d := 0) (by decide); exact this⟩, hs.ex hx⟩ (hl.ex hx) (zEof_upC o1 g2.1 g2.2) (kk z hz hb)
end ZMC
