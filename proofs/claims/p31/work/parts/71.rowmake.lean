/-! ===== the law's random row: its gates, its cards ===== -/
theorem zPt.eq {K : zKt} {J : zI} {A : Nat → Nat} {S S' : zS} {j c : Nat} (h : zPt K J A S j c) (eG : ∀ g : Nat, g < j → sG S' g = sG S g ∧ sL S' g = sL S g) (eC : ∀ k : Nat, k < c → sC S' k = sC S k) : zPt K J A S' j c := by
  obtain ⟨h1, h3, h7, h8⟩ := h
  refine ⟨h1, h3, fun g hg => ?_, fun k hk => ?_⟩
  · obtain ⟨r, v, w0, w1⟩ := h7 g hg
    rw [(eG g hg).1, (eG g hg).2]
    exact ⟨r, v, w0, w1⟩
  · obtain ⟨r1, v⟩ := h8 k hk
    rw [eC k hk]
    exact ⟨r1, v⟩
theorem zPt.ge {K : zKt} {J : zI} {A : Nat → Nat} {S : zS} {j c i : Nat} (h : zPt K J A S j c) (hi : zvd j c i) : A 0 ≤ A i := by
  rcases Nat.eq_zero_or_pos i with rfl | q
  · exact Nat.le_refl _
  · exact Nat.le_of_lt (h.1.1 0 i (by unfold zvd; omega) hi q)
theorem zLm_nil {J : zI} {a b : Nat} {w : List Nat} (hw : w = []) (h : J a 0 = 0) : zLm J a b w := by
  subst hw
  exact ⟨h, fun p hp => absurd hp (Nat.not_lt_zero _)⟩
theorem qAddGate_G {T : zS} {m : Int32} {g j : Nat} : sG (qAddGate T m) g j = if g = zng T ∧ j = 0 then m else sG T g j := tG_G
theorem qAddGate_n {T : zS} {m : Int32} (h : zng T < 6) : zng (qAddGate T m) = zng T + 1 ∧ znc (qAddGate T m) = znc T := by
  refine ⟨?_, rfl⟩
  show (nI (zng T + 1)).toNatClampNeg = _
  exact nI_clamp (by omega)
theorem zOk.gate {L W : List Nat} {T : zS} {n m k : Nat} (h : zOk L T n m) (hn : n < 6) (hk : k ≤ 2) (hl : 0 < W.length) (h32 : W.getD 0 0 ≠ 32)
    (hs : ∀ (t : Nat → Nat) (n p : Nat), ¬ zng T = 6 → p + W.length ≤ n → (∀ i, i < W.length → t (p + i) = W.getD i 0) → (n ≤ p + W.length ∨ t (p + W.length) ≠ 32) → pStmt t n p T = .inr (p + W.length, qAddGate T (nI k))) : zOk (L ++ W) (qAddGate T (nI k)) (n + 1) m := by
  obtain ⟨a, ⟨b1, b2, b3⟩, c, d⟩ := h
  have e := qAddGate_n (T := T) (m := nI k) (by omega)
  have hm : nI k = 0 ∨ nI k = 1 ∨ nI k = 2 := by
    rcases (show k = 0 ∨ k = 1 ∨ k = 2 by omega) with rfl | rfl | rfl
    · exact Or.inl rfl
    · exact Or.inr (Or.inl rfl)
    · exact Or.inr (Or.inr rfl)
  exact ⟨a.step hl h32 (fun t n p => hs t n p (by omega)), ⟨zWf_addGate b1 (by omega) hm, b2.gate (fun s => (b1.blank _ (Nat.le_refl _)).2 s), fun i hi => b3 i (by rw [e.2] at hi; exact hi)⟩, by rw [e.1, c], by rw [e.2, d]⟩
theorem zgnew {T : zS} {f : Nat → Int32} {m : Int32} {j : Nat} (hW : zWf T) (hj : zng T = j) (h0 : f 0 = m) (h1 : f 1 = 0) (h2 : f 2 = -1) (h3 : f 3 = 0) (h4 : f 4 = 0) (h5 : f 5 = 0) (h6 : f 6 = -1) : ∀ i : Nat, i < 7 → f i = zgv i (sG (qAddGate T m) j i) := by
  intro i hi
  have hb := (hW.blank j (by omega)).1
  rw [qAddGate_G]
  rcases (show i = 0 ∨ i = 1 ∨ i = 2 ∨ i = 3 ∨ i = 4 ∨ i = 5 ∨ i = 6 by omega) with rfl | rfl | rfl | rfl | rfl | rfl | rfl
  · rw [if_pos ⟨hj.symm, rfl⟩]; exact h0
  · rw [if_neg (fun z => absurd z.2 (by decide)), hb]; exact h1
  · rw [if_neg (fun z => absurd z.2 (by decide)), hb]; exact h2
  · rw [if_neg (fun z => absurd z.2 (by decide)), hb]; exact h3
  · rw [if_neg (fun z => absurd z.2 (by decide)), hb]; exact h4
  · rw [if_neg (fun z => absurd z.2 (by decide)), hb]; exact h5
  · rw [if_neg (fun z => absurd z.2 (by decide)), hb]; exact h6
set_option maxRecDepth 20000 in
theorem zlr_L_randomRow {l : Launch} {D : va_G} {b0 : Nat} {tA : Nat → ClassId} {sa sv : Nat → Nat} {K : zKt} {I : zI} {Qd : zKt → zI → Option AV → Prop} {p : Program} {e : Env} {s : State} {m : MethodId} {args : Array Value} {below : List Frame} {meth : Method} {c : Code} {x w r z n7 : Nat} {er : Int32} {S : zS} {U : List zS} {Iv : Nat → Int32} {h9 f9 : Int32}
    (X : zX p l e zrm_L_randomRow s m args below meth c RL cL_randomRow 10 (some (.object "GateRowLaw$Station")) D b0 tA sa sv) (hnt : ∀ x ∈ c.exceptionTable.toList, False) (hE : x + 501 ≤ w ∧ x + 501 ≤ r ∧ w ≠ r ∧ w < z ∧ r < z) (hIv4 : Iv 4 = nI n7) (hn4 : n7 ≤ 4) (hk : ∀ (B : Nat → Nat) (T : zS) (L : List Nat) (K9 : zKt) (J : zI) (cells slots : Nat), zPt K9 J B T n7 0 → zOk L T n7 0 → L.length ≤ 48 → kex K K9 → (∀ q, q < z → K9.2 q = K.2 q ∧ ((q < x ∨ x + 501 ≤ q) → q ≠ w → q ≠ r → J q = I q)) → B 0 = z → (J z = Iv ∧ ∀ k, J (B 3) k = 0) → zTx J x w er S U L → (∀ i : Nat, i < 15 → i ≠ 4 → i ≠ 5 → sX T i = sX (tX (tX zBlank 0 h9) 1 f9) i) → cells ≤ 24 → slots ≤ 176 → zG p l e zrm_L_randomRow s m args below meth c 10 D b0 tA sa cells slots (zQD below D b0 tA sa K args s zrm_L_randomRow Qd) K9 173 [some (vr (x) 7), some (vr (w) 19), some (vr (r) 16), some (vr (z) 17), none, none, none, none, none, none] [] J) :
    ∀ (n : Nat) (j : Nat) (B : Nat → Nat) (T : zS) (L : List Nat) (K9 : zKt) (J : zI) (cells slots : Nat), j ≤ n7 → zPt K9 J B T j 0 → zOk L T j 0 → L.length ≤ 8 + 10 * j → kex K K9 → (∀ q, q < z → K9.2 q = K.2 q ∧ ((q < x ∨ x + 501 ≤ q) → q ≠ w → q ≠ r → J q = I q)) → B 0 = z → (J z = Iv ∧ ∀ k, J (B 3) k = 0) → zTx J x w er S U L → (∀ i : Nat, i < 15 → i ≠ 4 → i ≠ 5 → sX T i = sX (tX (tX zBlank 0 h9) 1 f9) i) → cells ≤ 4 + 5 * j → slots ≤ 36 + 35 * j → n7 - j < n → zG p l e zrm_L_randomRow s m args below meth c 10 D b0 tA sa cells slots (zQD below D b0 tA sa K args s zrm_L_randomRow Qd) K9 83 [some (vr (x) 7), some (vr (w) 19), some (vr (r) 16), some (vr (z) 17), some (vi ((nI j))), none, none, none, none, none] [] J := by
  intro n
  induction n with
  | zero => intro j B T L K9 J cells slots i1 iP iK iL ix ifr iB iv iT iX ic is i9; exact absurd i9 (Nat.not_lt_zero _)
  | succ n ih =>
    intro j B T L K9 J cells slots i1 iP iK iL ix ifr iB iv iT iX ic is i9
    have hng := iK.2.2.1
    have hBz : K9.1 z = some 17 := by have := iP.2.1.1; rwa [iB] at this
    obtain ⟨kB1, hB1⟩ := iP.1.2 1 (by unfold zvd; omega)
    obtain ⟨kB2, hB2⟩ := iP.1.2 2 (by unfold zvd; omega)
    obtain ⟨kB3, hB3⟩ := iP.1.2 3 (by unfold zvd; omega)
    have hz1 : z < B 1 := by have := iP.1.1 0 1 (by unfold zvd; omega) (by unfold zvd; omega) (by omega); rwa [iB] at this
    have hb12 := iP.1.1 1 2 (by unfold zvd; omega) (by unfold zvd; omega) (by omega)
    have hb23 := iP.1.1 2 3 (by unfold zvd; omega) (by unfold zvd; omega) (by omega)
    have hmany : J z 4 = nI n7 := by rw [iv.1]; exact hIv4
    refine zr_iload4 X dL_randomRow_83 ?_
    refine zr_aload3 X dL_randomRow_85 ?_
    refine zr_getI X zf_L_143 rfl dL_randomRow_86 ?_
    refine zr_eq (x2 := (nI n7)) (hmany) ?_
    refine zr_nicmp_ge X (j) (n7) (tgt := 173) (by omega) (by omega) dL_randomRow_89 (by decide) (fun h1 => ?_) (fun h1 => ?_)
    · skip
      have hj9 : j = n7 := by omega
      subst hj9
      refine zr_forget (lv2 := [some (vr (x) 7), some (vr (w) 19), some (vr (r) 16), some (vr (z) 17), none, none, none, none, none, none]) (fun j9 v9 h9 => by rcases j9 with _ | _ | _ | _ | _ | _ | _ | _ | _ | _ | j9 <;> first | exact h9 | (simp at h9; done) | (simp at h9)) ?_
      exact hk B T L K9 J cells slots iP iK (by omega) ix ifr iB iv iT iX (by omega) (by omega)
    · skip
      refine zr_aload3 X dL_randomRow_92 ?_
      refine zr_getD (r := B (1)) X zf_L_146 rfl (by decide) ((by have := iP.2.1.2.1; rwa [iB] at this)) dL_randomRow_93 ?_
      refine zr_iload4 X dL_randomRow_96 ?_
      refine zr_new X znw_L_150 ⟨by simp only [zrm_L_randomRow, zrm_X9_init, zrm_X8_init, zrm_X12_init, zrm_X11_below, zrm_L_write, zrm_L_writeNumber, zrm_L_put, zrm_X12_tick, zrm_X12_join, zrm_X12_whyNot]; omega, by simp only [zrm_L_randomRow, zrm_X9_init, zrm_X8_init, zrm_X12_init, zrm_X11_below, zrm_L_write, zrm_L_writeNumber, zrm_L_put, zrm_X12_tick, zrm_X12_join, zrm_X12_whyNot]; omega⟩ dL_randomRow_98 (fun z2 hf3 hb4 => ?_)
      have := hf3 _ _ hBz
      have hk5 := kup_ex (k := 14) hf3 _ _ hBz
      have := hf3 _ _ hB1
      have hk6 := kup_ex (k := 14) hf3 _ _ hB1
      have := hf3 _ _ hB2
      have hk7 := kup_ex (k := 14) hf3 _ _ hB2
      have := hf3 _ _ hB3
      have hk8 := kup_ex (k := 14) hf3 _ _ hB3
      have hk9 : (kup K9 z2 14).1 z2 = some 14 := kup_new
      refine zr_dupR X dL_randomRow_101 ?_
      refine zr_aload2 X dL_randomRow_102 ?_
      refine zr_iconst (v := (2 : Int32)) X dL_randomRow_103 (by decide) ?_
      refine zr_callVQ (rm9 := zrm_X11_below) (As := [vi ((2 : Int32))]) (st := [vr (z2) 14, vr (z2) 14, vi ((nI j)), vr (B (1)) 20]) X zm_L_118 rfl rfl ⟨by decide, Nat.le_of_ble_eq_true rfl⟩ ⟨by simp only [zrm_L_randomRow, zrm_X9_init, zrm_X8_init, zrm_X12_init, zrm_X11_below, zrm_L_write, zrm_L_writeNumber, zrm_L_put, zrm_X12_tick, zrm_X12_join, zrm_X12_whyNot]; omega, by simp only [zrm_L_randomRow, zrm_X9_init, zrm_X8_init, zrm_X12_init, zrm_X11_below, zrm_L_write, zrm_L_writeNumber, zrm_L_put, zrm_X12_tick, zrm_X12_join, zrm_X12_whyNot]; omega⟩ (Nat.le_of_ble_eq_true rfl) dL_randomRow_104 ?_
      refine zp_X11_below (b := 2) (by omega) (by omega) (fun vv10 v11 hv12 => ?_)
      refine zr_nif_ne X (v11) (tgt := 114) (by omega) dL_randomRow_107 (by decide) (fun h13 => ?_) (fun h13 => ?_)
      · skip
        refine zr_aload2 X dL_randomRow_114 ?_
        refine zr_iconst (v := (3 : Int32)) X dL_randomRow_115 (by decide) ?_
        refine zr_callVQ (rm9 := zrm_X11_below) (As := [vi ((3 : Int32))]) (st := [vr (z2) 14, vr (z2) 14, vi ((nI j)), vr (B (1)) 20]) X zm_L_118 rfl rfl ⟨by decide, Nat.le_of_ble_eq_true rfl⟩ ⟨by simp only [zrm_L_randomRow, zrm_X9_init, zrm_X8_init, zrm_X12_init, zrm_X11_below, zrm_L_write, zrm_L_writeNumber, zrm_L_put, zrm_X12_tick, zrm_X12_join, zrm_X12_whyNot]; omega, by simp only [zrm_L_randomRow, zrm_X9_init, zrm_X8_init, zrm_X12_init, zrm_X11_below, zrm_L_write, zrm_L_writeNumber, zrm_L_put, zrm_X12_tick, zrm_X12_join, zrm_X12_whyNot]; omega⟩ (Nat.le_of_ble_eq_true rfl) dL_randomRow_116 ?_
        refine zp_X11_below (b := 3) (by omega) (by omega) (fun vv14 v15 hv16 => ?_); rcases (show v15 = 0 ∨ v15 = 1 ∨ v15 = 2 by omega) with rfl | rfl | rfl
        · skip
          refine zr_eq (x2 := (0 : Int32)) rfl ?_
          refine zr_initD (rm9 := zrm_X9_init) (As := [vi ((0 : Int32))]) (st := [vr (z2) 14, vi ((nI j)), vr (B (1)) 20]) X zin_L_152 rfl rfl ⟨by decide, Nat.le_of_ble_eq_true rfl⟩ ⟨by simp only [zrm_L_randomRow, zrm_X9_init, zrm_X8_init, zrm_X12_init, zrm_X11_below, zrm_L_write, zrm_L_writeNumber, zrm_L_put, zrm_X12_tick, zrm_X12_join, zrm_X12_whyNot]; omega, by simp only [zrm_L_randomRow, zrm_X9_init, zrm_X8_init, zrm_X12_init, zrm_X11_below, zrm_L_write, zrm_L_writeNumber, zrm_L_put, zrm_X12_tick, zrm_X12_join, zrm_X12_whyNot]; omega⟩ (Nat.le_of_ble_eq_true rfl) dL_randomRow_119 ?_
          refine zd_X9_init hk9 (fun K17 y18 b19 y20 b21 J22 hf23 hx24 hl25 hl26 hl27 hkn28 hr29 hv30 hv31 hv32 hfr33 => ?_)
          intro hq34
          have hk35 := hx24 _ _ hk5
          have := hf23 _ _ hk5
          have hk36 := hx24 _ _ hk6
          have := hf23 _ _ hk6
          have hk37 := hx24 _ _ hk7
          have := hf23 _ _ hk7
          have hk38 := hx24 _ _ hk8
          have := hf23 _ _ hk8
          have hk39 := hx24 _ _ hk9
          have := hf23 _ _ hk9
          refine zr_aastD (k := 20) (n := j) X rfl (show _ < 6 from (by first | decide | omega)) dL_randomRow_122 ?_
          refine zr_aload0 X dL_randomRow_123 ?_
          refine zr_aload1 X dL_randomRow_124 ?_
          refine zr_aload3 X dL_randomRow_125 ?_
          refine zr_getD (r := B (1)) X zf_L_146 rfl (by decide) ((kset_ne (by omega)).trans ((congrFun (hfr33 (z) (by omega) (by omega)).1 5).trans ((kup_old2 (by omega)).trans ((by have := iP.2.1.2.1; rwa [iB] at this))))) dL_randomRow_126 ?_
          refine zr_iload4 X dL_randomRow_129 ?_
          refine zr_aaldD (k := 20) (n := j) (r := z2) X rfl (show _ < 6 from (by first | decide | omega)) (kset_eq) dL_randomRow_131 ?_
          refine zr_getI X zf_L_155 rfl dL_randomRow_132 ?_
          refine zr_eq (x2 := (0 : Int32)) (hv30.1) ?_
          refine zr_if_ne (tgt := 143) X dL_randomRow_135 (by decide) (fun h => absurd h (by decide)) (fun _ => ?_)
          refine zr_ldcS X 13 rfl (by decide) dL_randomRow_138 ?_
          refine zr_goto (tgt := 164) X dL_randomRow_140 (by decide) ?_
          refine zr_callSQ (rm9 := zrm_L_write) (As := [vr (x) 7, vr (w) 19, vr (sa 13) (24 + 13)]) (st := []) X zm_L_132 rfl rfl ⟨by decide, Nat.le_of_ble_eq_true rfl⟩ ⟨by simp only [zrm_L_randomRow, zrm_X9_init, zrm_X8_init, zrm_X12_init, zrm_X11_below, zrm_L_write, zrm_L_writeNumber, zrm_L_put, zrm_X12_tick, zrm_X12_join, zrm_X12_whyNot]; omega, by simp only [zrm_L_randomRow, zrm_X9_init, zrm_X8_init, zrm_X12_init, zrm_X11_below, zrm_L_write, zrm_L_writeNumber, zrm_L_put, zrm_X12_tick, zrm_X12_join, zrm_X12_whyNot]; omega⟩ (Nat.le_of_ble_eq_true rfl) dL_randomRow_164 ?_
          refine zp_L_write (L := L) (i := 13) (zTx.on iT (fun q q1 q2 => funext fun j9 => (congrFun (hfr33 (q) (by omega) (by omega)).2 j9).trans ((zput_ne (by omega)).trans ((zput_ne (by omega)).trans ((congrFun (zz_ne (by omega)) j9).trans ((Eq.refl (J (q) j9))))))) (funext fun j9 => (congrFun (hfr33 (w) (by omega) (by omega)).2 j9).trans ((zput_ne (by omega)).trans ((zput_ne (by omega)).trans ((congrFun (zz_ne (by omega)) j9).trans ((Eq.refl (J (w) j9)))))))) (Or.inr hE.1) (by decide) (by first | omega | (simp only [List.length_append, List.length_cons, List.length_nil, show (zSW.getD 10 []).length = 4 from rfl, show (zSW.getD 11 []).length = 1 from rfl, show (zSW.getD 12 []).length = 1 from rfl, show (zSW.getD 13 []).length = 8 from rfl, show (zSW.getD 14 []).length = 9 from rfl, show (zSW.getD 15 []).length = 10 from rfl, show (zSW.getD 16 []).length = 5 from rfl]; omega)) (fun JT1 hT2 hW3 => ?_)
          refine zr_iinc4 (v := (nI (j + 1))) X (show nI (j) + Int32.ofInt 1 = nI (j + 1) from nI_1 (j)) (by decide) rfl dL_randomRow_167 ?_
          refine zr_goto (tgt := 83) X dL_randomRow_170 (by decide) ?_
          have hok := iK.gate (k := 0) (W := zSW.getD 13 []) (by omega) (by decide) (by decide) (by decide) (fun t n p q0 q1 q2 q3 => zst_gate_in q0 q1 q2 q3)
          have hlB : ∀ i, zvd j 0 i → z ≤ B i ∧ B i < z2 := fun i hi => ⟨by have := iP.ge hi; omega, iP.lt hf3 hi⟩
          have hP2 : zPt K9 JT1 B (qAddGate T (nI 0)) j 0 := (iP.on (J' := JT1) kex.rf (fun i hi => ⟨rfl, by have := hlB i hi; exact funext fun j9 => (congrFun (hW3 (B i) (by omega) (by omega)) j9).trans ((congrFun (hfr33 (B i) (by omega) (by omega)).2 j9).trans ((zput_ne (by omega)).trans ((zput_ne (by omega)).trans ((congrFun (zz_ne (by omega)) j9)))))⟩)).eq (fun g hg => ⟨funext fun j9 => by rw [qAddGate_G, if_neg (fun q => by omega)], rfl⟩) (fun k hk => absurd hk (Nat.not_lt_zero _))
          have hP3 := zPt.gate (K' := _) (J' := JT1) hP2 hf3 (((kup_ex hf3)).tr hx24) (fun q hq => ⟨funext fun j9 => (congrFun (hfr33 (q) (by omega) (by omega)).1 j9).trans ((kup_old2 (by omega)).trans ((rfl))), rfl⟩) (show z2 < y18 by omega) (by omega) (by omega) (by omega) ⟨hk39, hkn28.1, hkn28.2.1, hkn28.2.2.1, hkn28.2.2.2⟩ ⟨hr29.1, hr29.2.1, hr29.2.2.1, hr29.2.2.2⟩ (zgnew iK.2.1.1 iK.2.2.1 ((congrFun (hW3 (z2) (by omega) (by omega)) 0).trans (hv30.1)) ((congrFun (hW3 (z2) (by omega) (by omega)) 1).trans (hv30.2.1)) ((congrFun (hW3 (z2) (by omega) (by omega)) 2).trans (hv30.2.2.1)) ((congrFun (hW3 (z2) (by omega) (by omega)) 3).trans (hv30.2.2.2.1)) ((congrFun (hW3 (z2) (by omega) (by omega)) 4).trans (hv30.2.2.2.2.1)) ((congrFun (hW3 (z2) (by omega) (by omega)) 5).trans (hv30.2.2.2.2.2.1)) ((congrFun (hW3 (z2) (by omega) (by omega)) 6).trans (hv30.2.2.2.2.2.2))) (zLm_nil ((iK.2.1.1.blank j (by rw [iK.2.2.1]; exact Nat.le_refl _)).2 0) ((congrFun (hW3 (y18) (by omega) (by omega)) 0).trans (hv31))) (zLm_nil ((iK.2.1.1.blank j (by rw [iK.2.2.1]; exact Nat.le_refl _)).2 1) ((congrFun (hW3 (y20) (by omega) (by omega)) 0).trans (hv32)))
          refine zr_forget (lv2 := [some (vr (x) 7), some (vr (w) 19), some (vr (r) 16), some (vr (z) 17), some (vi ((nI (j + 1)))), none, none, none, none, none]) (fun j9 v9 h9 => by rcases j9 with _ | _ | _ | _ | _ | _ | _ | _ | _ | _ | j9 <;> first | exact h9 | (simp at h9; done) | (simp at h9)) ?_
          refine ih (j + 1) (zAg B j z2 y18 b19 y20 b21) _ _ _ _ _ _ (by omega) hP3 hok ?_ ((((kex.rf.tr ix).tr (kup_ex hf3)).tr hx24).tr kset_ex) (fun q hq => ⟨(funext fun j9 => (kset_ne (by omega)).trans ((congrFun (hfr33 (q) (by omega) (by omega)).1 j9).trans ((kup_old2 (by omega)).trans ((rfl))))).trans (ifr q hq).1, fun a1 a2 a3 => (funext fun j9 => (congrFun (hW3 (q) (by omega) (by omega)) j9).trans ((congrFun (hfr33 (q) (by omega) (by omega)).2 j9).trans ((zput_ne (by omega)).trans ((zput_ne (by omega)).trans ((congrFun (zz_ne (by omega)) j9)))))).trans ((ifr q hq).2 a1 a2 a3)⟩) ((zAg_n (by omega)).trans iB) ⟨(funext fun j9 => (congrFun (hW3 (z) (by omega) (by omega)) j9).trans ((congrFun (hfr33 (z) (by omega) (by omega)).2 j9).trans ((zput_ne (by omega)).trans ((zput_ne (by omega)).trans ((congrFun (zz_ne (by omega)) j9)))))).trans iv.1, fun k => ?_⟩ hT2 (fun i i1 i2 i3 => (if_neg i2).trans (iX i i1 i2 i3)) ?_ ?_ (by omega)
          · rw [List.length_append, show (zSW.getD 13 []).length = 8 from rfl]; omega
          · rw [zAg_n (by omega)]; exact ((congrFun (hW3 (B (3)) (by omega) (by omega)) k).trans ((congrFun (hfr33 (B (3)) (by omega) (by omega)).2 k).trans ((zput_ne (by omega)).trans ((zput_ne (by omega)).trans ((congrFun (zz_ne (by omega)) k)))))).trans (iv.2 k)
          · simp only [zrm_L_randomRow, zrm_X9_init, zrm_X8_init, zrm_X12_init, zrm_X11_below, zrm_L_write, zrm_L_writeNumber, zrm_L_put, zrm_X12_tick, zrm_X12_join, zrm_X12_whyNot]; omega
          · simp only [zrm_L_randomRow, zrm_X9_init, zrm_X8_init, zrm_X12_init, zrm_X11_below, zrm_L_write, zrm_L_writeNumber, zrm_L_put, zrm_X12_tick, zrm_X12_join, zrm_X12_whyNot]; omega
        · skip
          refine zr_eq (x2 := (1 : Int32)) rfl ?_
          refine zr_initD (rm9 := zrm_X9_init) (As := [vi ((1 : Int32))]) (st := [vr (z2) 14, vi ((nI j)), vr (B (1)) 20]) X zin_L_152 rfl rfl ⟨by decide, Nat.le_of_ble_eq_true rfl⟩ ⟨by simp only [zrm_L_randomRow, zrm_X9_init, zrm_X8_init, zrm_X12_init, zrm_X11_below, zrm_L_write, zrm_L_writeNumber, zrm_L_put, zrm_X12_tick, zrm_X12_join, zrm_X12_whyNot]; omega, by simp only [zrm_L_randomRow, zrm_X9_init, zrm_X8_init, zrm_X12_init, zrm_X11_below, zrm_L_write, zrm_L_writeNumber, zrm_L_put, zrm_X12_tick, zrm_X12_join, zrm_X12_whyNot]; omega⟩ (Nat.le_of_ble_eq_true rfl) dL_randomRow_119 ?_
          refine zd_X9_init hk9 (fun K40 y41 b42 y43 b44 J45 hf46 hx47 hl48 hl49 hl50 hkn51 hr52 hv53 hv54 hv55 hfr56 => ?_)
          intro hq57
          have hk58 := hx47 _ _ hk5
          have := hf46 _ _ hk5
          have hk59 := hx47 _ _ hk6
          have := hf46 _ _ hk6
          have hk60 := hx47 _ _ hk7
          have := hf46 _ _ hk7
          have hk61 := hx47 _ _ hk8
          have := hf46 _ _ hk8
          have hk62 := hx47 _ _ hk9
          have := hf46 _ _ hk9
          refine zr_aastD (k := 20) (n := j) X rfl (show _ < 6 from (by first | decide | omega)) dL_randomRow_122 ?_
          refine zr_aload0 X dL_randomRow_123 ?_
          refine zr_aload1 X dL_randomRow_124 ?_
          refine zr_aload3 X dL_randomRow_125 ?_
          refine zr_getD (r := B (1)) X zf_L_146 rfl (by decide) ((kset_ne (by omega)).trans ((congrFun (hfr56 (z) (by omega) (by omega)).1 5).trans ((kup_old2 (by omega)).trans ((by have := iP.2.1.2.1; rwa [iB] at this))))) dL_randomRow_126 ?_
          refine zr_iload4 X dL_randomRow_129 ?_
          refine zr_aaldD (k := 20) (n := j) (r := z2) X rfl (show _ < 6 from (by first | decide | omega)) (kset_eq) dL_randomRow_131 ?_
          refine zr_getI X zf_L_155 rfl dL_randomRow_132 ?_
          refine zr_eq (x2 := (1 : Int32)) (hv53.1) ?_
          refine zr_if_ne (tgt := 143) X dL_randomRow_135 (by decide) (fun _ => ?_) (fun h => absurd h (by decide))
          refine zr_aload3 X dL_randomRow_143 ?_
          refine zr_getD (r := B (1)) X zf_L_146 rfl (by decide) ((kset_ne (by omega)).trans ((congrFun (hfr56 (z) (by omega) (by omega)).1 5).trans ((kup_old2 (by omega)).trans ((by have := iP.2.1.2.1; rwa [iB] at this))))) dL_randomRow_144 ?_
          refine zr_iload4 X dL_randomRow_147 ?_
          refine zr_aaldD (k := 20) (n := j) (r := z2) X rfl (show _ < 6 from (by first | decide | omega)) (kset_eq) dL_randomRow_149 ?_
          refine zr_getI X zf_L_155 rfl dL_randomRow_150 ?_
          refine zr_eq (x2 := (1 : Int32)) (hv53.1) ?_
          refine zr_iconst (v := (1 : Int32)) X dL_randomRow_153 (by decide) ?_
          refine zr_icmp_ne (tgt := 162) X dL_randomRow_154 (by decide) (fun h => absurd h (by decide)) (fun _ => ?_)
          refine zr_ldcS X 14 rfl (by decide) dL_randomRow_157 ?_
          refine zr_goto (tgt := 164) X dL_randomRow_159 (by decide) ?_
          refine zr_callSQ (rm9 := zrm_L_write) (As := [vr (x) 7, vr (w) 19, vr (sa 14) (24 + 14)]) (st := []) X zm_L_132 rfl rfl ⟨by decide, Nat.le_of_ble_eq_true rfl⟩ ⟨by simp only [zrm_L_randomRow, zrm_X9_init, zrm_X8_init, zrm_X12_init, zrm_X11_below, zrm_L_write, zrm_L_writeNumber, zrm_L_put, zrm_X12_tick, zrm_X12_join, zrm_X12_whyNot]; omega, by simp only [zrm_L_randomRow, zrm_X9_init, zrm_X8_init, zrm_X12_init, zrm_X11_below, zrm_L_write, zrm_L_writeNumber, zrm_L_put, zrm_X12_tick, zrm_X12_join, zrm_X12_whyNot]; omega⟩ (Nat.le_of_ble_eq_true rfl) dL_randomRow_164 ?_
          refine zp_L_write (L := L) (i := 14) (zTx.on iT (fun q q1 q2 => funext fun j9 => (congrFun (hfr56 (q) (by omega) (by omega)).2 j9).trans ((zput_ne (by omega)).trans ((zput_ne (by omega)).trans ((congrFun (zz_ne (by omega)) j9).trans ((Eq.refl (J (q) j9))))))) (funext fun j9 => (congrFun (hfr56 (w) (by omega) (by omega)).2 j9).trans ((zput_ne (by omega)).trans ((zput_ne (by omega)).trans ((congrFun (zz_ne (by omega)) j9).trans ((Eq.refl (J (w) j9)))))))) (Or.inr hE.1) (by decide) (by first | omega | (simp only [List.length_append, List.length_cons, List.length_nil, show (zSW.getD 10 []).length = 4 from rfl, show (zSW.getD 11 []).length = 1 from rfl, show (zSW.getD 12 []).length = 1 from rfl, show (zSW.getD 13 []).length = 8 from rfl, show (zSW.getD 14 []).length = 9 from rfl, show (zSW.getD 15 []).length = 10 from rfl, show (zSW.getD 16 []).length = 5 from rfl]; omega)) (fun JT4 hT5 hW6 => ?_)
          refine zr_iinc4 (v := (nI (j + 1))) X (show nI (j) + Int32.ofInt 1 = nI (j + 1) from nI_1 (j)) (by decide) rfl dL_randomRow_167 ?_
          refine zr_goto (tgt := 83) X dL_randomRow_170 (by decide) ?_
          have hok := iK.gate (k := 1) (W := zSW.getD 14 []) (by omega) (by decide) (by decide) (by decide) (fun t n p q0 q1 q2 q3 => zst_gate_out q0 q1 q2 q3)
          have hlB : ∀ i, zvd j 0 i → z ≤ B i ∧ B i < z2 := fun i hi => ⟨by have := iP.ge hi; omega, iP.lt hf3 hi⟩
          have hP2 : zPt K9 JT4 B (qAddGate T (nI 1)) j 0 := (iP.on (J' := JT4) kex.rf (fun i hi => ⟨rfl, by have := hlB i hi; exact funext fun j9 => (congrFun (hW6 (B i) (by omega) (by omega)) j9).trans ((congrFun (hfr56 (B i) (by omega) (by omega)).2 j9).trans ((zput_ne (by omega)).trans ((zput_ne (by omega)).trans ((congrFun (zz_ne (by omega)) j9)))))⟩)).eq (fun g hg => ⟨funext fun j9 => by rw [qAddGate_G, if_neg (fun q => by omega)], rfl⟩) (fun k hk => absurd hk (Nat.not_lt_zero _))
          have hP3 := zPt.gate (K' := _) (J' := JT4) hP2 hf3 (((kup_ex hf3)).tr hx47) (fun q hq => ⟨funext fun j9 => (congrFun (hfr56 (q) (by omega) (by omega)).1 j9).trans ((kup_old2 (by omega)).trans ((rfl))), rfl⟩) (show z2 < y41 by omega) (by omega) (by omega) (by omega) ⟨hk62, hkn51.1, hkn51.2.1, hkn51.2.2.1, hkn51.2.2.2⟩ ⟨hr52.1, hr52.2.1, hr52.2.2.1, hr52.2.2.2⟩ (zgnew iK.2.1.1 iK.2.2.1 ((congrFun (hW6 (z2) (by omega) (by omega)) 0).trans (hv53.1)) ((congrFun (hW6 (z2) (by omega) (by omega)) 1).trans (hv53.2.1)) ((congrFun (hW6 (z2) (by omega) (by omega)) 2).trans (hv53.2.2.1)) ((congrFun (hW6 (z2) (by omega) (by omega)) 3).trans (hv53.2.2.2.1)) ((congrFun (hW6 (z2) (by omega) (by omega)) 4).trans (hv53.2.2.2.2.1)) ((congrFun (hW6 (z2) (by omega) (by omega)) 5).trans (hv53.2.2.2.2.2.1)) ((congrFun (hW6 (z2) (by omega) (by omega)) 6).trans (hv53.2.2.2.2.2.2))) (zLm_nil ((iK.2.1.1.blank j (by rw [iK.2.2.1]; exact Nat.le_refl _)).2 0) ((congrFun (hW6 (y41) (by omega) (by omega)) 0).trans (hv54))) (zLm_nil ((iK.2.1.1.blank j (by rw [iK.2.2.1]; exact Nat.le_refl _)).2 1) ((congrFun (hW6 (y43) (by omega) (by omega)) 0).trans (hv55)))
          refine zr_forget (lv2 := [some (vr (x) 7), some (vr (w) 19), some (vr (r) 16), some (vr (z) 17), some (vi ((nI (j + 1)))), none, none, none, none, none]) (fun j9 v9 h9 => by rcases j9 with _ | _ | _ | _ | _ | _ | _ | _ | _ | _ | j9 <;> first | exact h9 | (simp at h9; done) | (simp at h9)) ?_
          refine ih (j + 1) (zAg B j z2 y41 b42 y43 b44) _ _ _ _ _ _ (by omega) hP3 hok ?_ ((((kex.rf.tr ix).tr (kup_ex hf3)).tr hx47).tr kset_ex) (fun q hq => ⟨(funext fun j9 => (kset_ne (by omega)).trans ((congrFun (hfr56 (q) (by omega) (by omega)).1 j9).trans ((kup_old2 (by omega)).trans ((rfl))))).trans (ifr q hq).1, fun a1 a2 a3 => (funext fun j9 => (congrFun (hW6 (q) (by omega) (by omega)) j9).trans ((congrFun (hfr56 (q) (by omega) (by omega)).2 j9).trans ((zput_ne (by omega)).trans ((zput_ne (by omega)).trans ((congrFun (zz_ne (by omega)) j9)))))).trans ((ifr q hq).2 a1 a2 a3)⟩) ((zAg_n (by omega)).trans iB) ⟨(funext fun j9 => (congrFun (hW6 (z) (by omega) (by omega)) j9).trans ((congrFun (hfr56 (z) (by omega) (by omega)).2 j9).trans ((zput_ne (by omega)).trans ((zput_ne (by omega)).trans ((congrFun (zz_ne (by omega)) j9)))))).trans iv.1, fun k => ?_⟩ hT5 (fun i i1 i2 i3 => (if_neg i2).trans (iX i i1 i2 i3)) ?_ ?_ (by omega)
          · rw [List.length_append, show (zSW.getD 14 []).length = 9 from rfl]; omega
          · rw [zAg_n (by omega)]; exact ((congrFun (hW6 (B (3)) (by omega) (by omega)) k).trans ((congrFun (hfr56 (B (3)) (by omega) (by omega)).2 k).trans ((zput_ne (by omega)).trans ((zput_ne (by omega)).trans ((congrFun (zz_ne (by omega)) k)))))).trans (iv.2 k)
          · simp only [zrm_L_randomRow, zrm_X9_init, zrm_X8_init, zrm_X12_init, zrm_X11_below, zrm_L_write, zrm_L_writeNumber, zrm_L_put, zrm_X12_tick, zrm_X12_join, zrm_X12_whyNot]; omega
          · simp only [zrm_L_randomRow, zrm_X9_init, zrm_X8_init, zrm_X12_init, zrm_X11_below, zrm_L_write, zrm_L_writeNumber, zrm_L_put, zrm_X12_tick, zrm_X12_join, zrm_X12_whyNot]; omega
        · skip
          refine zr_eq (x2 := (2 : Int32)) rfl ?_
          refine zr_initD (rm9 := zrm_X9_init) (As := [vi ((2 : Int32))]) (st := [vr (z2) 14, vi ((nI j)), vr (B (1)) 20]) X zin_L_152 rfl rfl ⟨by decide, Nat.le_of_ble_eq_true rfl⟩ ⟨by simp only [zrm_L_randomRow, zrm_X9_init, zrm_X8_init, zrm_X12_init, zrm_X11_below, zrm_L_write, zrm_L_writeNumber, zrm_L_put, zrm_X12_tick, zrm_X12_join, zrm_X12_whyNot]; omega, by simp only [zrm_L_randomRow, zrm_X9_init, zrm_X8_init, zrm_X12_init, zrm_X11_below, zrm_L_write, zrm_L_writeNumber, zrm_L_put, zrm_X12_tick, zrm_X12_join, zrm_X12_whyNot]; omega⟩ (Nat.le_of_ble_eq_true rfl) dL_randomRow_119 ?_
          refine zd_X9_init hk9 (fun K63 y64 b65 y66 b67 J68 hf69 hx70 hl71 hl72 hl73 hkn74 hr75 hv76 hv77 hv78 hfr79 => ?_)
          intro hq80
          have hk81 := hx70 _ _ hk5
          have := hf69 _ _ hk5
          have hk82 := hx70 _ _ hk6
          have := hf69 _ _ hk6
          have hk83 := hx70 _ _ hk7
          have := hf69 _ _ hk7
          have hk84 := hx70 _ _ hk8
          have := hf69 _ _ hk8
          have hk85 := hx70 _ _ hk9
          have := hf69 _ _ hk9
          refine zr_aastD (k := 20) (n := j) X rfl (show _ < 6 from (by first | decide | omega)) dL_randomRow_122 ?_
          refine zr_aload0 X dL_randomRow_123 ?_
          refine zr_aload1 X dL_randomRow_124 ?_
          refine zr_aload3 X dL_randomRow_125 ?_
          refine zr_getD (r := B (1)) X zf_L_146 rfl (by decide) ((kset_ne (by omega)).trans ((congrFun (hfr79 (z) (by omega) (by omega)).1 5).trans ((kup_old2 (by omega)).trans ((by have := iP.2.1.2.1; rwa [iB] at this))))) dL_randomRow_126 ?_
          refine zr_iload4 X dL_randomRow_129 ?_
          refine zr_aaldD (k := 20) (n := j) (r := z2) X rfl (show _ < 6 from (by first | decide | omega)) (kset_eq) dL_randomRow_131 ?_
          refine zr_getI X zf_L_155 rfl dL_randomRow_132 ?_
          refine zr_eq (x2 := (2 : Int32)) (hv76.1) ?_
          refine zr_if_ne (tgt := 143) X dL_randomRow_135 (by decide) (fun _ => ?_) (fun h => absurd h (by decide))
          refine zr_aload3 X dL_randomRow_143 ?_
          refine zr_getD (r := B (1)) X zf_L_146 rfl (by decide) ((kset_ne (by omega)).trans ((congrFun (hfr79 (z) (by omega) (by omega)).1 5).trans ((kup_old2 (by omega)).trans ((by have := iP.2.1.2.1; rwa [iB] at this))))) dL_randomRow_144 ?_
          refine zr_iload4 X dL_randomRow_147 ?_
          refine zr_aaldD (k := 20) (n := j) (r := z2) X rfl (show _ < 6 from (by first | decide | omega)) (kset_eq) dL_randomRow_149 ?_
          refine zr_getI X zf_L_155 rfl dL_randomRow_150 ?_
          refine zr_eq (x2 := (2 : Int32)) (hv76.1) ?_
          refine zr_iconst (v := (1 : Int32)) X dL_randomRow_153 (by decide) ?_
          refine zr_icmp_ne (tgt := 162) X dL_randomRow_154 (by decide) (fun _ => ?_) (fun h => absurd h (by decide))
          refine zr_ldcS X 15 rfl (by decide) dL_randomRow_162 ?_
          refine zr_callSQ (rm9 := zrm_L_write) (As := [vr (x) 7, vr (w) 19, vr (sa 15) (24 + 15)]) (st := []) X zm_L_132 rfl rfl ⟨by decide, Nat.le_of_ble_eq_true rfl⟩ ⟨by simp only [zrm_L_randomRow, zrm_X9_init, zrm_X8_init, zrm_X12_init, zrm_X11_below, zrm_L_write, zrm_L_writeNumber, zrm_L_put, zrm_X12_tick, zrm_X12_join, zrm_X12_whyNot]; omega, by simp only [zrm_L_randomRow, zrm_X9_init, zrm_X8_init, zrm_X12_init, zrm_X11_below, zrm_L_write, zrm_L_writeNumber, zrm_L_put, zrm_X12_tick, zrm_X12_join, zrm_X12_whyNot]; omega⟩ (Nat.le_of_ble_eq_true rfl) dL_randomRow_164 ?_
          refine zp_L_write (L := L) (i := 15) (zTx.on iT (fun q q1 q2 => funext fun j9 => (congrFun (hfr79 (q) (by omega) (by omega)).2 j9).trans ((zput_ne (by omega)).trans ((zput_ne (by omega)).trans ((congrFun (zz_ne (by omega)) j9).trans ((Eq.refl (J (q) j9))))))) (funext fun j9 => (congrFun (hfr79 (w) (by omega) (by omega)).2 j9).trans ((zput_ne (by omega)).trans ((zput_ne (by omega)).trans ((congrFun (zz_ne (by omega)) j9).trans ((Eq.refl (J (w) j9)))))))) (Or.inr hE.1) (by decide) (by first | omega | (simp only [List.length_append, List.length_cons, List.length_nil, show (zSW.getD 10 []).length = 4 from rfl, show (zSW.getD 11 []).length = 1 from rfl, show (zSW.getD 12 []).length = 1 from rfl, show (zSW.getD 13 []).length = 8 from rfl, show (zSW.getD 14 []).length = 9 from rfl, show (zSW.getD 15 []).length = 10 from rfl, show (zSW.getD 16 []).length = 5 from rfl]; omega)) (fun JT7 hT8 hW9 => ?_)
          refine zr_iinc4 (v := (nI (j + 1))) X (show nI (j) + Int32.ofInt 1 = nI (j + 1) from nI_1 (j)) (by decide) rfl dL_randomRow_167 ?_
          refine zr_goto (tgt := 83) X dL_randomRow_170 (by decide) ?_
          have hok := iK.gate (k := 2) (W := zSW.getD 15 []) (by omega) (by decide) (by decide) (by decide) (fun t n p q0 q1 q2 q3 => zst_gate_both q0 q1 q2 q3)
          have hlB : ∀ i, zvd j 0 i → z ≤ B i ∧ B i < z2 := fun i hi => ⟨by have := iP.ge hi; omega, iP.lt hf3 hi⟩
          have hP2 : zPt K9 JT7 B (qAddGate T (nI 2)) j 0 := (iP.on (J' := JT7) kex.rf (fun i hi => ⟨rfl, by have := hlB i hi; exact funext fun j9 => (congrFun (hW9 (B i) (by omega) (by omega)) j9).trans ((congrFun (hfr79 (B i) (by omega) (by omega)).2 j9).trans ((zput_ne (by omega)).trans ((zput_ne (by omega)).trans ((congrFun (zz_ne (by omega)) j9)))))⟩)).eq (fun g hg => ⟨funext fun j9 => by rw [qAddGate_G, if_neg (fun q => by omega)], rfl⟩) (fun k hk => absurd hk (Nat.not_lt_zero _))
          have hP3 := zPt.gate (K' := _) (J' := JT7) hP2 hf3 (((kup_ex hf3)).tr hx70) (fun q hq => ⟨funext fun j9 => (congrFun (hfr79 (q) (by omega) (by omega)).1 j9).trans ((kup_old2 (by omega)).trans ((rfl))), rfl⟩) (show z2 < y64 by omega) (by omega) (by omega) (by omega) ⟨hk85, hkn74.1, hkn74.2.1, hkn74.2.2.1, hkn74.2.2.2⟩ ⟨hr75.1, hr75.2.1, hr75.2.2.1, hr75.2.2.2⟩ (zgnew iK.2.1.1 iK.2.2.1 ((congrFun (hW9 (z2) (by omega) (by omega)) 0).trans (hv76.1)) ((congrFun (hW9 (z2) (by omega) (by omega)) 1).trans (hv76.2.1)) ((congrFun (hW9 (z2) (by omega) (by omega)) 2).trans (hv76.2.2.1)) ((congrFun (hW9 (z2) (by omega) (by omega)) 3).trans (hv76.2.2.2.1)) ((congrFun (hW9 (z2) (by omega) (by omega)) 4).trans (hv76.2.2.2.2.1)) ((congrFun (hW9 (z2) (by omega) (by omega)) 5).trans (hv76.2.2.2.2.2.1)) ((congrFun (hW9 (z2) (by omega) (by omega)) 6).trans (hv76.2.2.2.2.2.2))) (zLm_nil ((iK.2.1.1.blank j (by rw [iK.2.2.1]; exact Nat.le_refl _)).2 0) ((congrFun (hW9 (y64) (by omega) (by omega)) 0).trans (hv77))) (zLm_nil ((iK.2.1.1.blank j (by rw [iK.2.2.1]; exact Nat.le_refl _)).2 1) ((congrFun (hW9 (y66) (by omega) (by omega)) 0).trans (hv78)))
          refine zr_forget (lv2 := [some (vr (x) 7), some (vr (w) 19), some (vr (r) 16), some (vr (z) 17), some (vi ((nI (j + 1)))), none, none, none, none, none]) (fun j9 v9 h9 => by rcases j9 with _ | _ | _ | _ | _ | _ | _ | _ | _ | _ | j9 <;> first | exact h9 | (simp at h9; done) | (simp at h9)) ?_
          refine ih (j + 1) (zAg B j z2 y64 b65 y66 b67) _ _ _ _ _ _ (by omega) hP3 hok ?_ ((((kex.rf.tr ix).tr (kup_ex hf3)).tr hx70).tr kset_ex) (fun q hq => ⟨(funext fun j9 => (kset_ne (by omega)).trans ((congrFun (hfr79 (q) (by omega) (by omega)).1 j9).trans ((kup_old2 (by omega)).trans ((rfl))))).trans (ifr q hq).1, fun a1 a2 a3 => (funext fun j9 => (congrFun (hW9 (q) (by omega) (by omega)) j9).trans ((congrFun (hfr79 (q) (by omega) (by omega)).2 j9).trans ((zput_ne (by omega)).trans ((zput_ne (by omega)).trans ((congrFun (zz_ne (by omega)) j9)))))).trans ((ifr q hq).2 a1 a2 a3)⟩) ((zAg_n (by omega)).trans iB) ⟨(funext fun j9 => (congrFun (hW9 (z) (by omega) (by omega)) j9).trans ((congrFun (hfr79 (z) (by omega) (by omega)).2 j9).trans ((zput_ne (by omega)).trans ((zput_ne (by omega)).trans ((congrFun (zz_ne (by omega)) j9)))))).trans iv.1, fun k => ?_⟩ hT8 (fun i i1 i2 i3 => (if_neg i2).trans (iX i i1 i2 i3)) ?_ ?_ (by omega)
          · rw [List.length_append, show (zSW.getD 15 []).length = 10 from rfl]; omega
          · rw [zAg_n (by omega)]; exact ((congrFun (hW9 (B (3)) (by omega) (by omega)) k).trans ((congrFun (hfr79 (B (3)) (by omega) (by omega)).2 k).trans ((zput_ne (by omega)).trans ((zput_ne (by omega)).trans ((congrFun (zz_ne (by omega)) k)))))).trans (iv.2 k)
          · simp only [zrm_L_randomRow, zrm_X9_init, zrm_X8_init, zrm_X12_init, zrm_X11_below, zrm_L_write, zrm_L_writeNumber, zrm_L_put, zrm_X12_tick, zrm_X12_join, zrm_X12_whyNot]; omega
          · simp only [zrm_L_randomRow, zrm_X9_init, zrm_X8_init, zrm_X12_init, zrm_X11_below, zrm_L_write, zrm_L_writeNumber, zrm_L_put, zrm_X12_tick, zrm_X12_join, zrm_X12_whyNot]; omega
      · skip
        refine zr_iconst (v := (2 : Int32)) X dL_randomRow_110 (by decide) ?_
        refine zr_goto (tgt := 119) X dL_randomRow_111 (by decide) ?_
        refine zr_initD (rm9 := zrm_X9_init) (As := [vi ((2 : Int32))]) (st := [vr (z2) 14, vi ((nI j)), vr (B (1)) 20]) X zin_L_152 rfl rfl ⟨by decide, Nat.le_of_ble_eq_true rfl⟩ ⟨by simp only [zrm_L_randomRow, zrm_X9_init, zrm_X8_init, zrm_X12_init, zrm_X11_below, zrm_L_write, zrm_L_writeNumber, zrm_L_put, zrm_X12_tick, zrm_X12_join, zrm_X12_whyNot]; omega, by simp only [zrm_L_randomRow, zrm_X9_init, zrm_X8_init, zrm_X12_init, zrm_X11_below, zrm_L_write, zrm_L_writeNumber, zrm_L_put, zrm_X12_tick, zrm_X12_join, zrm_X12_whyNot]; omega⟩ (Nat.le_of_ble_eq_true rfl) dL_randomRow_119 ?_
        refine zd_X9_init hk9 (fun K86 y87 b88 y89 b90 J91 hf92 hx93 hl94 hl95 hl96 hkn97 hr98 hv99 hv100 hv101 hfr102 => ?_)
        intro hq103
        have hk104 := hx93 _ _ hk5
        have := hf92 _ _ hk5
        have hk105 := hx93 _ _ hk6
        have := hf92 _ _ hk6
        have hk106 := hx93 _ _ hk7
        have := hf92 _ _ hk7
        have hk107 := hx93 _ _ hk8
        have := hf92 _ _ hk8
        have hk108 := hx93 _ _ hk9
        have := hf92 _ _ hk9
        refine zr_aastD (k := 20) (n := j) X rfl (show _ < 6 from (by first | decide | omega)) dL_randomRow_122 ?_
        refine zr_aload0 X dL_randomRow_123 ?_
        refine zr_aload1 X dL_randomRow_124 ?_
        refine zr_aload3 X dL_randomRow_125 ?_
        refine zr_getD (r := B (1)) X zf_L_146 rfl (by decide) ((kset_ne (by omega)).trans ((congrFun (hfr102 (z) (by omega) (by omega)).1 5).trans ((kup_old2 (by omega)).trans ((by have := iP.2.1.2.1; rwa [iB] at this))))) dL_randomRow_126 ?_
        refine zr_iload4 X dL_randomRow_129 ?_
        refine zr_aaldD (k := 20) (n := j) (r := z2) X rfl (show _ < 6 from (by first | decide | omega)) (kset_eq) dL_randomRow_131 ?_
        refine zr_getI X zf_L_155 rfl dL_randomRow_132 ?_
        refine zr_eq (x2 := (2 : Int32)) (hv99.1) ?_
        refine zr_if_ne (tgt := 143) X dL_randomRow_135 (by decide) (fun _ => ?_) (fun h => absurd h (by decide))
        refine zr_aload3 X dL_randomRow_143 ?_
        refine zr_getD (r := B (1)) X zf_L_146 rfl (by decide) ((kset_ne (by omega)).trans ((congrFun (hfr102 (z) (by omega) (by omega)).1 5).trans ((kup_old2 (by omega)).trans ((by have := iP.2.1.2.1; rwa [iB] at this))))) dL_randomRow_144 ?_
        refine zr_iload4 X dL_randomRow_147 ?_
        refine zr_aaldD (k := 20) (n := j) (r := z2) X rfl (show _ < 6 from (by first | decide | omega)) (kset_eq) dL_randomRow_149 ?_
        refine zr_getI X zf_L_155 rfl dL_randomRow_150 ?_
        refine zr_eq (x2 := (2 : Int32)) (hv99.1) ?_
        refine zr_iconst (v := (1 : Int32)) X dL_randomRow_153 (by decide) ?_
        refine zr_icmp_ne (tgt := 162) X dL_randomRow_154 (by decide) (fun _ => ?_) (fun h => absurd h (by decide))
        refine zr_ldcS X 15 rfl (by decide) dL_randomRow_162 ?_
        refine zr_callSQ (rm9 := zrm_L_write) (As := [vr (x) 7, vr (w) 19, vr (sa 15) (24 + 15)]) (st := []) X zm_L_132 rfl rfl ⟨by decide, Nat.le_of_ble_eq_true rfl⟩ ⟨by simp only [zrm_L_randomRow, zrm_X9_init, zrm_X8_init, zrm_X12_init, zrm_X11_below, zrm_L_write, zrm_L_writeNumber, zrm_L_put, zrm_X12_tick, zrm_X12_join, zrm_X12_whyNot]; omega, by simp only [zrm_L_randomRow, zrm_X9_init, zrm_X8_init, zrm_X12_init, zrm_X11_below, zrm_L_write, zrm_L_writeNumber, zrm_L_put, zrm_X12_tick, zrm_X12_join, zrm_X12_whyNot]; omega⟩ (Nat.le_of_ble_eq_true rfl) dL_randomRow_164 ?_
        refine zp_L_write (L := L) (i := 15) (zTx.on iT (fun q q1 q2 => funext fun j9 => (congrFun (hfr102 (q) (by omega) (by omega)).2 j9).trans ((zput_ne (by omega)).trans ((congrFun (zz_ne (by omega)) j9).trans ((Eq.refl (J (q) j9)))))) (funext fun j9 => (congrFun (hfr102 (w) (by omega) (by omega)).2 j9).trans ((zput_ne (by omega)).trans ((congrFun (zz_ne (by omega)) j9).trans ((Eq.refl (J (w) j9))))))) (Or.inr hE.1) (by decide) (by first | omega | (simp only [List.length_append, List.length_cons, List.length_nil, show (zSW.getD 10 []).length = 4 from rfl, show (zSW.getD 11 []).length = 1 from rfl, show (zSW.getD 12 []).length = 1 from rfl, show (zSW.getD 13 []).length = 8 from rfl, show (zSW.getD 14 []).length = 9 from rfl, show (zSW.getD 15 []).length = 10 from rfl, show (zSW.getD 16 []).length = 5 from rfl]; omega)) (fun JT10 hT11 hW12 => ?_)
        refine zr_iinc4 (v := (nI (j + 1))) X (show nI (j) + Int32.ofInt 1 = nI (j + 1) from nI_1 (j)) (by decide) rfl dL_randomRow_167 ?_
        refine zr_goto (tgt := 83) X dL_randomRow_170 (by decide) ?_
        have hok := iK.gate (k := 2) (W := zSW.getD 15 []) (by omega) (by decide) (by decide) (by decide) (fun t n p q0 q1 q2 q3 => zst_gate_both q0 q1 q2 q3)
        have hlB : ∀ i, zvd j 0 i → z ≤ B i ∧ B i < z2 := fun i hi => ⟨by have := iP.ge hi; omega, iP.lt hf3 hi⟩
        have hP2 : zPt K9 JT10 B (qAddGate T (nI 2)) j 0 := (iP.on (J' := JT10) kex.rf (fun i hi => ⟨rfl, by have := hlB i hi; exact funext fun j9 => (congrFun (hW12 (B i) (by omega) (by omega)) j9).trans ((congrFun (hfr102 (B i) (by omega) (by omega)).2 j9).trans ((zput_ne (by omega)).trans ((congrFun (zz_ne (by omega)) j9))))⟩)).eq (fun g hg => ⟨funext fun j9 => by rw [qAddGate_G, if_neg (fun q => by omega)], rfl⟩) (fun k hk => absurd hk (Nat.not_lt_zero _))
        have hP3 := zPt.gate (K' := _) (J' := JT10) hP2 hf3 (((kup_ex hf3)).tr hx93) (fun q hq => ⟨funext fun j9 => (congrFun (hfr102 (q) (by omega) (by omega)).1 j9).trans ((kup_old2 (by omega)).trans ((rfl))), rfl⟩) (show z2 < y87 by omega) (by omega) (by omega) (by omega) ⟨hk108, hkn97.1, hkn97.2.1, hkn97.2.2.1, hkn97.2.2.2⟩ ⟨hr98.1, hr98.2.1, hr98.2.2.1, hr98.2.2.2⟩ (zgnew iK.2.1.1 iK.2.2.1 ((congrFun (hW12 (z2) (by omega) (by omega)) 0).trans (hv99.1)) ((congrFun (hW12 (z2) (by omega) (by omega)) 1).trans (hv99.2.1)) ((congrFun (hW12 (z2) (by omega) (by omega)) 2).trans (hv99.2.2.1)) ((congrFun (hW12 (z2) (by omega) (by omega)) 3).trans (hv99.2.2.2.1)) ((congrFun (hW12 (z2) (by omega) (by omega)) 4).trans (hv99.2.2.2.2.1)) ((congrFun (hW12 (z2) (by omega) (by omega)) 5).trans (hv99.2.2.2.2.2.1)) ((congrFun (hW12 (z2) (by omega) (by omega)) 6).trans (hv99.2.2.2.2.2.2))) (zLm_nil ((iK.2.1.1.blank j (by rw [iK.2.2.1]; exact Nat.le_refl _)).2 0) ((congrFun (hW12 (y87) (by omega) (by omega)) 0).trans (hv100))) (zLm_nil ((iK.2.1.1.blank j (by rw [iK.2.2.1]; exact Nat.le_refl _)).2 1) ((congrFun (hW12 (y89) (by omega) (by omega)) 0).trans (hv101)))
        refine zr_forget (lv2 := [some (vr (x) 7), some (vr (w) 19), some (vr (r) 16), some (vr (z) 17), some (vi ((nI (j + 1)))), none, none, none, none, none]) (fun j9 v9 h9 => by rcases j9 with _ | _ | _ | _ | _ | _ | _ | _ | _ | _ | j9 <;> first | exact h9 | (simp at h9; done) | (simp at h9)) ?_
        refine ih (j + 1) (zAg B j z2 y87 b88 y89 b90) _ _ _ _ _ _ (by omega) hP3 hok ?_ ((((kex.rf.tr ix).tr (kup_ex hf3)).tr hx93).tr kset_ex) (fun q hq => ⟨(funext fun j9 => (kset_ne (by omega)).trans ((congrFun (hfr102 (q) (by omega) (by omega)).1 j9).trans ((kup_old2 (by omega)).trans ((rfl))))).trans (ifr q hq).1, fun a1 a2 a3 => (funext fun j9 => (congrFun (hW12 (q) (by omega) (by omega)) j9).trans ((congrFun (hfr102 (q) (by omega) (by omega)).2 j9).trans ((zput_ne (by omega)).trans ((congrFun (zz_ne (by omega)) j9))))).trans ((ifr q hq).2 a1 a2 a3)⟩) ((zAg_n (by omega)).trans iB) ⟨(funext fun j9 => (congrFun (hW12 (z) (by omega) (by omega)) j9).trans ((congrFun (hfr102 (z) (by omega) (by omega)).2 j9).trans ((zput_ne (by omega)).trans ((congrFun (zz_ne (by omega)) j9))))).trans iv.1, fun k => ?_⟩ hT11 (fun i i1 i2 i3 => (if_neg i2).trans (iX i i1 i2 i3)) ?_ ?_ (by omega)
        · rw [List.length_append, show (zSW.getD 15 []).length = 10 from rfl]; omega
        · rw [zAg_n (by omega)]; exact ((congrFun (hW12 (B (3)) (by omega) (by omega)) k).trans ((congrFun (hfr102 (B (3)) (by omega) (by omega)).2 k).trans ((zput_ne (by omega)).trans ((congrFun (zz_ne (by omega)) k))))).trans (iv.2 k)
        · simp only [zrm_L_randomRow, zrm_X9_init, zrm_X8_init, zrm_X12_init, zrm_X11_below, zrm_L_write, zrm_L_writeNumber, zrm_L_put, zrm_X12_tick, zrm_X12_join, zrm_X12_whyNot]; omega
        · simp only [zrm_L_randomRow, zrm_X9_init, zrm_X8_init, zrm_X12_init, zrm_X11_below, zrm_L_write, zrm_L_writeNumber, zrm_L_put, zrm_X12_tick, zrm_X12_join, zrm_X12_whyNot]; omega
theorem qAddCard_n {T : zS} {nm : Nat → Int32} {v : Int32} (h : znc T < 12) : znc (qAddCard T nm v) = znc T + 1 ∧ zng (qAddCard T nm v) = zng T := by
  refine ⟨?_, rfl⟩
  show (nI (znc T + 1)).toNatClampNeg = _
  exact nI_clamp (by omega)
theorem zOk.card {L W : List Nat} {T : zS} {n c v : Nat} (h : zOk L T n c) (hc : c < 12) (hl : 0 < W.length) (h32 : W.getD 0 0 ≠ 32)
    (hs : ∀ (t : Nat → Nat) (n p : Nat), zNames T → znc T < 12 → c = znc T → p + W.length ≤ n → (∀ i, i < W.length → t (p + i) = W.getD i 0) → (n ≤ p + W.length ∨ t (p + W.length) ≠ 32) → pStmt t n p T = .inr (p + W.length, qAddCard T (zNmC c) (nI v))) : zOk (L ++ W) (qAddCard T (zNmC c) (nI v)) n (c + 1) := by
  obtain ⟨a, ⟨b1, b2, b3⟩, d, e⟩ := h
  have en := qAddCard_n (T := T) (nm := zNmC c) (v := nI v) (by omega)
  refine ⟨a.step hl h32 (fun t n p => hs t n p b3 (by omega) e.symm), ⟨zWf_addCard b1 (by omega) ⟨1, by decide, by decide, fun k => ⟨fun hk => ?_, fun hk => if_neg (by omega)⟩⟩, b2.card, fun i hi => ?_⟩, by rw [en.2, d], by rw [en.1, e]⟩
  · obtain rfl : k = 0 := by omega
    have h9 : ∀ c, c < 12 → 97 ≤ zNmC c 0 ∧ zNmC c 0 ≤ 122 := by decide
    exact h9 c hc
  · show (fun x y => if x = znc T then zNmC c y else sM T x y) i = _
    rw [en.1] at hi
    funext y
    dsimp only
    by_cases q : i = znc T
    · rw [if_pos q, q, e]
    · rw [if_neg q, b3 i (by omega)]
theorem zcnew {T : zS} {f : Nat → Int32} {nm : Nat → Int32} {v : Int32} {j : Nat} (hW : zWf T) (hj : znc T = j) (h0 : f 0 = v) (h1 : f 1 = 0) (h2 : f 2 = 0) (h3 : f 3 = 0) : ∀ i : Nat, i < 4 → f i = sC (qAddCard T nm v) j i := by
  intro i hi
  have hb := (hW.blankc j (by omega)).1
  show _ = zu2 (sC T) (znc T) 0 v j i
  rcases (show i = 0 ∨ i = 1 ∨ i = 2 ∨ i = 3 by omega) with rfl | rfl | rfl | rfl
  · rw [hj, zu2_eq]; exact h0
  · rw [zu2_ne (fun z => absurd z.2 (by decide)), hb]; exact h1
  · rw [zu2_ne (fun z => absurd z.2 (by decide)), hb]; exact h2
  · rw [zu2_ne (fun z => absurd z.2 (by decide)), hb]; exact h3
set_option maxRecDepth 20000 in
theorem zlq_L_randomRow {l : Launch} {D : va_G} {b0 : Nat} {tA : Nat → ClassId} {sa sv : Nat → Nat} {K : zKt} {I : zI} {Qd : zKt → zI → Option AV → Prop} {p : Program} {e : Env} {s : State} {m : MethodId} {args : Array Value} {below : List Frame} {meth : Method} {c : Code} {x w r z n7 m7 : Nat} {er : Int32} {S : zS} {U : List zS} {Iv : Nat → Int32} {h9 f9 : Int32}
    (X : zX p l e zrm_L_randomRow s m args below meth c RL cL_randomRow 10 (some (.object "GateRowLaw$Station")) D b0 tA sa sv) (hnt : ∀ x ∈ c.exceptionTable.toList, False) (hE : x + 501 ≤ w ∧ x + 501 ≤ r ∧ w ≠ r ∧ w < z ∧ r < z) (hIv6 : Iv 6 = nI m7) (hn4 : n7 ≤ 4) (hm8 : m7 ≤ 8) (hk : ∀ (B : Nat → Nat) (T : zS) (L : List Nat) (K9 : zKt) (J : zI) (cells slots : Nat), zPt K9 J B T n7 m7 → zOk L T n7 m7 → L.length ≤ 120 → kex K K9 → (∀ q, q < z → K9.2 q = K.2 q ∧ ((q < x ∨ x + 501 ≤ q) → q ≠ w → q ≠ r → J q = I q)) → B 0 = z → (J z = Iv ∧ ∀ k, J (B 3) k = 0) → zTx J x w er S U L → (∀ i : Nat, i < 15 → i ≠ 4 → i ≠ 5 → sX T i = sX (tX (tX zBlank 0 h9) 1 f9) i) → cells ≤ 32 → slots ≤ 208 → zG p l e zrm_L_randomRow s m args below meth c 10 D b0 tA sa cells slots (zQD below D b0 tA sa K args s zrm_L_randomRow Qd) K9 269 [some (vr (x) 7), some (vr (w) 19), some (vr (r) 16), some (vr (z) 17), none, none, none, none, none, none] [] J) :
    ∀ (n : Nat) (j : Nat) (B : Nat → Nat) (T : zS) (L : List Nat) (K9 : zKt) (J : zI) (cells slots : Nat), j ≤ m7 → zPt K9 J B T n7 j → zOk L T n7 j → L.length ≤ 48 + 9 * j → kex K K9 → (∀ q, q < z → K9.2 q = K.2 q ∧ ((q < x ∨ x + 501 ≤ q) → q ≠ w → q ≠ r → J q = I q)) → B 0 = z → (J z = Iv ∧ ∀ k, J (B 3) k = 0) → zTx J x w er S U L → (∀ i : Nat, i < 15 → i ≠ 4 → i ≠ 5 → sX T i = sX (tX (tX zBlank 0 h9) 1 f9) i) → cells ≤ 24 + j → slots ≤ 176 + 4 * j → m7 - j < n → zG p l e zrm_L_randomRow s m args below meth c 10 D b0 tA sa cells slots (zQD below D b0 tA sa K args s zrm_L_randomRow Qd) K9 188 [some (vr (x) 7), some (vr (w) 19), some (vr (r) 16), some (vr (z) 17), some (vi ((nI j))), none, none, none, none, none] [] J := by
  intro n
  induction n with
  | zero => intro j B T L K9 J cells slots i1 iP iK iL ix ifr iB iv iT iX ic is i9; exact absurd i9 (Nat.not_lt_zero _)
  | succ n ih =>
    intro j B T L K9 J cells slots i1 iP iK iL ix ifr iB iv iT iX ic is i9
    have hng := iK.2.2.1
    have hBz : K9.1 z = some 17 := by have := iP.2.1.1; rwa [iB] at this
    obtain ⟨kB1, hB1⟩ := iP.1.2 1 (by unfold zvd; omega)
    obtain ⟨kB2, hB2⟩ := iP.1.2 2 (by unfold zvd; omega)
    obtain ⟨kB3, hB3⟩ := iP.1.2 3 (by unfold zvd; omega)
    have hz1 : z < B 1 := by have := iP.1.1 0 1 (by unfold zvd; omega) (by unfold zvd; omega) (by omega); rwa [iB] at this
    have hb12 := iP.1.1 1 2 (by unfold zvd; omega) (by unfold zvd; omega) (by omega)
    have hb23 := iP.1.1 2 3 (by unfold zvd; omega) (by unfold zvd; omega) (by omega)
    have hmany : J z 6 = nI m7 := by rw [iv.1]; exact hIv6
    have hnc := iK.2.2.2
    refine zr_iload4 X dL_randomRow_188 ?_
    refine zr_aload3 X dL_randomRow_190 ?_
    refine zr_getI X zf_L_163 rfl dL_randomRow_191 ?_
    refine zr_eq (x2 := (nI m7)) (hmany) ?_
    refine zr_nicmp_ge X (j) (m7) (tgt := 269) (by omega) (by omega) dL_randomRow_194 (by decide) (fun h1 => ?_) (fun h1 => ?_)
    · skip
      have hj9 : j = m7 := by omega
      subst hj9
      refine zr_forget (lv2 := [some (vr (x) 7), some (vr (w) 19), some (vr (r) 16), some (vr (z) 17), none, none, none, none, none, none]) (fun j9 v9 h9 => by rcases j9 with _ | _ | _ | _ | _ | _ | _ | _ | _ | _ | j9 <;> first | exact h9 | (simp at h9; done) | (simp at h9)) ?_
      exact hk B T L K9 J cells slots iP iK (by omega) ix ifr iB iv iT iX (by omega) (by omega)
    · skip
      refine zr_aload3 X dL_randomRow_197 ?_
      refine zr_getD (r := B (2)) X zf_L_166 rfl (by decide) ((by have := iP.2.1.2.2.1; rwa [iB] at this)) dL_randomRow_198 ?_
      refine zr_iload4 X dL_randomRow_201 ?_
      refine zr_new X znw_L_170 ⟨by simp only [zrm_L_randomRow, zrm_X9_init, zrm_X8_init, zrm_X12_init, zrm_X11_below, zrm_L_write, zrm_L_writeNumber, zrm_L_put, zrm_X12_tick, zrm_X12_join, zrm_X12_whyNot]; omega, by simp only [zrm_L_randomRow, zrm_X9_init, zrm_X8_init, zrm_X12_init, zrm_X11_below, zrm_L_write, zrm_L_writeNumber, zrm_L_put, zrm_X12_tick, zrm_X12_join, zrm_X12_whyNot]; omega⟩ dL_randomRow_203 (fun z2 hf3 hb4 => ?_)
      have := hf3 _ _ hBz
      have hk5 := kup_ex (k := 8) hf3 _ _ hBz
      have := hf3 _ _ hB1
      have hk6 := kup_ex (k := 8) hf3 _ _ hB1
      have := hf3 _ _ hB2
      have hk7 := kup_ex (k := 8) hf3 _ _ hB2
      have := hf3 _ _ hB3
      have hk8 := kup_ex (k := 8) hf3 _ _ hB3
      have hk9 : (kup K9 z2 8).1 z2 = some 8 := kup_new
      refine zr_dupR X dL_randomRow_206 ?_
      refine zr_aload2 X dL_randomRow_207 ?_
      refine zr_bipush (v := (6 : Int32)) X dL_randomRow_208 (by decide) ?_
      refine zr_callVQ (rm9 := zrm_X11_below) (As := [vi ((6 : Int32))]) (st := [vr (z2) 8, vr (z2) 8, vi ((nI j)), vr (B (2)) 21]) X zm_L_118 rfl rfl ⟨by decide, Nat.le_of_ble_eq_true rfl⟩ ⟨by simp only [zrm_L_randomRow, zrm_X9_init, zrm_X8_init, zrm_X12_init, zrm_X11_below, zrm_L_write, zrm_L_writeNumber, zrm_L_put, zrm_X12_tick, zrm_X12_join, zrm_X12_whyNot]; omega, by simp only [zrm_L_randomRow, zrm_X9_init, zrm_X8_init, zrm_X12_init, zrm_X11_below, zrm_L_write, zrm_L_writeNumber, zrm_L_put, zrm_X12_tick, zrm_X12_join, zrm_X12_whyNot]; omega⟩ (Nat.le_of_ble_eq_true rfl) dL_randomRow_210 ?_
      refine zp_X11_below (b := 6) (by omega) (by omega) (fun vv10 v11 hv12 => ?_)
      refine zr_initD (rm9 := zrm_X8_init) (As := [vi ((nI v11))]) (st := [vr (z2) 8, vi ((nI j)), vr (B (2)) 21]) X zin_L_172 rfl rfl ⟨by decide, Nat.le_of_ble_eq_true rfl⟩ ⟨by simp only [zrm_L_randomRow, zrm_X9_init, zrm_X8_init, zrm_X12_init, zrm_X11_below, zrm_L_write, zrm_L_writeNumber, zrm_L_put, zrm_X12_tick, zrm_X12_join, zrm_X12_whyNot]; omega, by simp only [zrm_L_randomRow, zrm_X9_init, zrm_X8_init, zrm_X12_init, zrm_X11_below, zrm_L_write, zrm_L_writeNumber, zrm_L_put, zrm_X12_tick, zrm_X12_join, zrm_X12_whyNot]; omega⟩ (Nat.le_of_ble_eq_true rfl) dL_randomRow_213 ?_
      refine zd_X8_init hk9 (fun J13 hv14 hv15 hv16 hv17 hfr18 => ?_)
      intro hq19
      refine zr_aastD (k := 21) (n := j) X rfl (show _ < 12 from (by first | decide | omega)) dL_randomRow_216 ?_
      refine zr_aload0 X dL_randomRow_217 ?_
      refine zr_aload1 X dL_randomRow_218 ?_
      refine zr_ldcS X 16 rfl (by decide) dL_randomRow_219 ?_
      refine zr_callSQ (rm9 := zrm_L_write) (As := [vr (x) 7, vr (w) 19, vr (sa 16) (24 + 16)]) (st := []) X zm_L_132 rfl rfl ⟨by decide, Nat.le_of_ble_eq_true rfl⟩ ⟨by simp only [zrm_L_randomRow, zrm_X9_init, zrm_X8_init, zrm_X12_init, zrm_X11_below, zrm_L_write, zrm_L_writeNumber, zrm_L_put, zrm_X12_tick, zrm_X12_join, zrm_X12_whyNot]; omega, by simp only [zrm_L_randomRow, zrm_X9_init, zrm_X8_init, zrm_X12_init, zrm_X11_below, zrm_L_write, zrm_L_writeNumber, zrm_L_put, zrm_X12_tick, zrm_X12_join, zrm_X12_whyNot]; omega⟩ (Nat.le_of_ble_eq_true rfl) dL_randomRow_221 ?_
      refine zp_L_write (L := L) (i := 16) (zTx.on iT (fun q q1 q2 => funext fun j9 => (congrFun (hfr18 (q) (by omega)) j9).trans ((zput_ne (by omega)).trans ((congrFun (zz_ne (by omega)) j9).trans ((Eq.refl (J (q) j9)))))) (funext fun j9 => (congrFun (hfr18 (w) (by omega)) j9).trans ((zput_ne (by omega)).trans ((congrFun (zz_ne (by omega)) j9).trans ((Eq.refl (J (w) j9))))))) (Or.inr hE.1) (by decide) (by first | omega | (simp only [List.length_append, List.length_cons, List.length_nil, show (zSW.getD 10 []).length = 4 from rfl, show (zSW.getD 11 []).length = 1 from rfl, show (zSW.getD 12 []).length = 1 from rfl, show (zSW.getD 13 []).length = 8 from rfl, show (zSW.getD 14 []).length = 9 from rfl, show (zSW.getD 15 []).length = 10 from rfl, show (zSW.getD 16 []).length = 5 from rfl]; omega)) (fun JT13 hT14 hW15 => ?_)
      refine zr_aload0 X dL_randomRow_224 ?_
      refine zr_aload1 X dL_randomRow_225 ?_
      refine zr_bipush (v := (97 : Int32)) X dL_randomRow_226 (by decide) ?_
      refine zr_iload4 X dL_randomRow_228 ?_
      refine zr_iadd X dL_randomRow_230 ?_
      refine zr_eq (x2 := (nI (97 + j))) (nI_add (97) (j)) ?_
      refine zr_callSQ (rm9 := zrm_L_put) (As := [vr (x) 7, vr (w) 19, vi ((nI (97 + j)))]) (st := []) X zm_L_33 rfl rfl ⟨by decide, Nat.le_of_ble_eq_true rfl⟩ ⟨by simp only [zrm_L_randomRow, zrm_X9_init, zrm_X8_init, zrm_X12_init, zrm_X11_below, zrm_L_write, zrm_L_writeNumber, zrm_L_put, zrm_X12_tick, zrm_X12_join, zrm_X12_whyNot]; omega, by simp only [zrm_L_randomRow, zrm_X9_init, zrm_X8_init, zrm_X12_init, zrm_X11_below, zrm_L_write, zrm_L_writeNumber, zrm_L_put, zrm_X12_tick, zrm_X12_join, zrm_X12_whyNot]; omega⟩ (Nat.le_of_ble_eq_true rfl) dL_randomRow_231 ?_
      refine zp_L_put (L := (L ++ zSW.getD 16 [])) (c9 := (97 + j)) hT14 (Or.inr hE.1) (by omega) (by first | omega | (simp only [List.length_append, List.length_cons, List.length_nil, show (zSW.getD 10 []).length = 4 from rfl, show (zSW.getD 11 []).length = 1 from rfl, show (zSW.getD 12 []).length = 1 from rfl, show (zSW.getD 13 []).length = 8 from rfl, show (zSW.getD 14 []).length = 9 from rfl, show (zSW.getD 15 []).length = 10 from rfl, show (zSW.getD 16 []).length = 5 from rfl]; omega)) (fun JT16 hT17 hW18 => ?_)
      refine zr_aload0 X dL_randomRow_234 ?_
      refine zr_aload1 X dL_randomRow_235 ?_
      refine zr_ldcS X 11 rfl (by decide) dL_randomRow_236 ?_
      refine zr_callSQ (rm9 := zrm_L_write) (As := [vr (x) 7, vr (w) 19, vr (sa 11) (24 + 11)]) (st := []) X zm_L_132 rfl rfl ⟨by decide, Nat.le_of_ble_eq_true rfl⟩ ⟨by simp only [zrm_L_randomRow, zrm_X9_init, zrm_X8_init, zrm_X12_init, zrm_X11_below, zrm_L_write, zrm_L_writeNumber, zrm_L_put, zrm_X12_tick, zrm_X12_join, zrm_X12_whyNot]; omega, by simp only [zrm_L_randomRow, zrm_X9_init, zrm_X8_init, zrm_X12_init, zrm_X11_below, zrm_L_write, zrm_L_writeNumber, zrm_L_put, zrm_X12_tick, zrm_X12_join, zrm_X12_whyNot]; omega⟩ (Nat.le_of_ble_eq_true rfl) dL_randomRow_238 ?_
      refine zp_L_write (L := ((L ++ zSW.getD 16 []) ++ [(97 + j)])) (i := 11) hT17 (Or.inr hE.1) (by decide) (by first | omega | (simp only [List.length_append, List.length_cons, List.length_nil, show (zSW.getD 10 []).length = 4 from rfl, show (zSW.getD 11 []).length = 1 from rfl, show (zSW.getD 12 []).length = 1 from rfl, show (zSW.getD 13 []).length = 8 from rfl, show (zSW.getD 14 []).length = 9 from rfl, show (zSW.getD 15 []).length = 10 from rfl, show (zSW.getD 16 []).length = 5 from rfl]; omega)) (fun JT19 hT20 hW21 => ?_)
      refine zr_aload0 X dL_randomRow_241 ?_
      refine zr_aload1 X dL_randomRow_242 ?_
      refine zr_aload3 X dL_randomRow_243 ?_
      refine zr_getD (r := B (2)) X zf_L_166 rfl (by decide) ((kset_ne (by omega)).trans ((kup_old2 (by omega)).trans ((by have := iP.2.1.2.2.1; rwa [iB] at this)))) dL_randomRow_244 ?_
      refine zr_iload4 X dL_randomRow_247 ?_
      refine zr_aaldD (k := 21) (n := j) (r := z2) X rfl (show _ < 12 from (by first | decide | omega)) (kset_eq) dL_randomRow_249 ?_
      refine zr_getI X zf_L_175 rfl dL_randomRow_250 ?_
      refine zr_eq (x2 := (nI v11)) ((congrFun (hW21 (z2) (by omega) (by omega)) 0).trans ((congrFun (hW18 (z2) (by omega) (by omega)) 0).trans ((congrFun (hW15 (z2) (by omega) (by omega)) 0).trans (hv14)))) ?_
      refine zr_callSQ (rm9 := zrm_L_writeNumber) (As := [vr (x) 7, vr (w) 19, vi ((nI v11))]) (st := []) X zm_L_136 rfl rfl ⟨by decide, Nat.le_of_ble_eq_true rfl⟩ ⟨by simp only [zrm_L_randomRow, zrm_X9_init, zrm_X8_init, zrm_X12_init, zrm_X11_below, zrm_L_write, zrm_L_writeNumber, zrm_L_put, zrm_X12_tick, zrm_X12_join, zrm_X12_whyNot]; omega, by simp only [zrm_L_randomRow, zrm_X9_init, zrm_X8_init, zrm_X12_init, zrm_X11_below, zrm_L_write, zrm_L_writeNumber, zrm_L_put, zrm_X12_tick, zrm_X12_join, zrm_X12_whyNot]; omega⟩ (Nat.le_of_ble_eq_true rfl) dL_randomRow_253 ?_
      refine zp_L_writeNumber (L := (((L ++ zSW.getD 16 []) ++ [(97 + j)]) ++ zSW.getD 11 [])) (n9 := v11) hT20 (Or.inr hE.1) (by omega) (by first | omega | (simp only [List.length_append, List.length_cons, List.length_nil, show (zSW.getD 10 []).length = 4 from rfl, show (zSW.getD 11 []).length = 1 from rfl, show (zSW.getD 12 []).length = 1 from rfl, show (zSW.getD 13 []).length = 8 from rfl, show (zSW.getD 14 []).length = 9 from rfl, show (zSW.getD 15 []).length = 10 from rfl, show (zSW.getD 16 []).length = 5 from rfl]; omega)) (fun JT22 hT23 hW24 => ?_)
      refine zr_aload0 X dL_randomRow_256 ?_
      refine zr_aload1 X dL_randomRow_257 ?_
      refine zr_ldcS X 12 rfl (by decide) dL_randomRow_258 ?_
      refine zr_callSQ (rm9 := zrm_L_write) (As := [vr (x) 7, vr (w) 19, vr (sa 12) (24 + 12)]) (st := []) X zm_L_132 rfl rfl ⟨by decide, Nat.le_of_ble_eq_true rfl⟩ ⟨by simp only [zrm_L_randomRow, zrm_X9_init, zrm_X8_init, zrm_X12_init, zrm_X11_below, zrm_L_write, zrm_L_writeNumber, zrm_L_put, zrm_X12_tick, zrm_X12_join, zrm_X12_whyNot]; omega, by simp only [zrm_L_randomRow, zrm_X9_init, zrm_X8_init, zrm_X12_init, zrm_X11_below, zrm_L_write, zrm_L_writeNumber, zrm_L_put, zrm_X12_tick, zrm_X12_join, zrm_X12_whyNot]; omega⟩ (Nat.le_of_ble_eq_true rfl) dL_randomRow_260 ?_
      refine zp_L_write (L := ((((L ++ zSW.getD 16 []) ++ [(97 + j)]) ++ zSW.getD 11 []) ++ [48 + v11])) (i := 12) hT23 (Or.inr hE.1) (by decide) (by first | omega | (simp only [List.length_append, List.length_cons, List.length_nil, show (zSW.getD 10 []).length = 4 from rfl, show (zSW.getD 11 []).length = 1 from rfl, show (zSW.getD 12 []).length = 1 from rfl, show (zSW.getD 13 []).length = 8 from rfl, show (zSW.getD 14 []).length = 9 from rfl, show (zSW.getD 15 []).length = 10 from rfl, show (zSW.getD 16 []).length = 5 from rfl]; omega)) (fun JT25 hT26 hW27 => ?_)
      refine zr_iinc4 (v := (nI (j + 1))) X (show nI (j) + Int32.ofInt 1 = nI (j + 1) from nI_1 (j)) (by decide) rfl dL_randomRow_263 ?_
      refine zr_goto (tgt := 188) X dL_randomRow_266 (by decide) ?_
      have he : (((((L ++ zSW.getD 16 []) ++ [(97 + j)]) ++ zSW.getD 11 []) ++ [48 + v11]) ++ zSW.getD 12 []) = L ++ [99, 97, 114, 100, 32, 97 + j, 32, 48 + v11, 59] := by simp only [List.append_assoc]; rfl
      have hok := iK.card (v := v11) (W := [99, 97, 114, 100, 32, 97 + j, 32, 48 + v11, 59]) (by omega) (Nat.succ_pos _) (show (99 : Nat) ≠ 32 by decide) (fun t n p a1 a2 a3 q1 q2 q3 => zst_card a1 a2 a3 (by omega) q1 q2 q3)
      have hlB : ∀ i, zvd n7 j i → z ≤ B i ∧ B i < z2 := fun i hi => ⟨by have := iP.ge hi; omega, iP.lt hf3 hi⟩
      have hP2 : zPt K9 JT25 B (qAddCard T (zNmC j) (nI v11)) n7 j := (iP.on (J' := JT25) kex.rf (fun i hi => ⟨rfl, by have := hlB i hi; exact funext fun j9 => (congrFun (hW27 (B i) (by omega) (by omega)) j9).trans ((congrFun (hW24 (B i) (by omega) (by omega)) j9).trans ((congrFun (hW21 (B i) (by omega) (by omega)) j9).trans ((congrFun (hW18 (B i) (by omega) (by omega)) j9).trans ((congrFun (hW15 (B i) (by omega) (by omega)) j9).trans ((congrFun (hfr18 (B i) (by omega)) j9).trans ((zput_ne (by omega)).trans ((congrFun (zz_ne (by omega)) j9))))))))⟩)).eq (fun g hg => ⟨rfl, rfl⟩) (fun k hk => funext fun j9 => zu2_ne (fun q => by omega))
      have hP3 := zPt.card (K' := _) (J' := JT25) hP2 (by omega) hf3 (kup_ex hf3) (fun q hq => ⟨funext fun j9 => kup_old2 (by omega), rfl⟩) hk9 (zcnew iK.2.1.1 iK.2.2.2 ((congrFun (hW27 (z2) (by omega) (by omega)) 0).trans ((congrFun (hW24 (z2) (by omega) (by omega)) 0).trans ((congrFun (hW21 (z2) (by omega) (by omega)) 0).trans ((congrFun (hW18 (z2) (by omega) (by omega)) 0).trans ((congrFun (hW15 (z2) (by omega) (by omega)) 0).trans (hv14)))))) ((congrFun (hW27 (z2) (by omega) (by omega)) 1).trans ((congrFun (hW24 (z2) (by omega) (by omega)) 1).trans ((congrFun (hW21 (z2) (by omega) (by omega)) 1).trans ((congrFun (hW18 (z2) (by omega) (by omega)) 1).trans ((congrFun (hW15 (z2) (by omega) (by omega)) 1).trans (hv15)))))) ((congrFun (hW27 (z2) (by omega) (by omega)) 2).trans ((congrFun (hW24 (z2) (by omega) (by omega)) 2).trans ((congrFun (hW21 (z2) (by omega) (by omega)) 2).trans ((congrFun (hW18 (z2) (by omega) (by omega)) 2).trans ((congrFun (hW15 (z2) (by omega) (by omega)) 2).trans (hv16)))))) ((congrFun (hW27 (z2) (by omega) (by omega)) 3).trans ((congrFun (hW24 (z2) (by omega) (by omega)) 3).trans ((congrFun (hW21 (z2) (by omega) (by omega)) 3).trans ((congrFun (hW18 (z2) (by omega) (by omega)) 3).trans ((congrFun (hW15 (z2) (by omega) (by omega)) 3).trans (hv17)))))))
      have hTx := hT26
      rw [he] at hTx
      refine zr_forget (lv2 := [some (vr (x) 7), some (vr (w) 19), some (vr (r) 16), some (vr (z) 17), some (vi ((nI (j + 1)))), none, none, none, none, none]) (fun j9 v9 h9 => by rcases j9 with _ | _ | _ | _ | _ | _ | _ | _ | _ | _ | j9 <;> first | exact h9 | (simp at h9; done) | (simp at h9)) ?_
      refine ih (j + 1) (zAc B j z2) _ _ _ _ _ _ (by omega) hP3 hok ?_ (((kex.rf.tr ix).tr (kup_ex hf3)).tr kset_ex) (fun q hq => ⟨(funext fun j9 => (kset_ne (by omega)).trans (kup_old2 (by omega))).trans (ifr q hq).1, fun a1 a2 a3 => (funext fun j9 => (congrFun (hW27 (q) (by omega) (by omega)) j9).trans ((congrFun (hW24 (q) (by omega) (by omega)) j9).trans ((congrFun (hW21 (q) (by omega) (by omega)) j9).trans ((congrFun (hW18 (q) (by omega) (by omega)) j9).trans ((congrFun (hW15 (q) (by omega) (by omega)) j9).trans ((congrFun (hfr18 (q) (by omega)) j9).trans ((zput_ne (by omega)).trans ((congrFun (zz_ne (by omega)) j9))))))))).trans ((ifr q hq).2 a1 a2 a3)⟩) ((zAc_n (by omega)).trans iB) ⟨(funext fun j9 => (congrFun (hW27 (z) (by omega) (by omega)) j9).trans ((congrFun (hW24 (z) (by omega) (by omega)) j9).trans ((congrFun (hW21 (z) (by omega) (by omega)) j9).trans ((congrFun (hW18 (z) (by omega) (by omega)) j9).trans ((congrFun (hW15 (z) (by omega) (by omega)) j9).trans ((congrFun (hfr18 (z) (by omega)) j9).trans ((zput_ne (by omega)).trans ((congrFun (zz_ne (by omega)) j9))))))))).trans iv.1, fun k => ?_⟩ hTx (fun i i1 i2 i3 => (if_neg i3).trans (iX i i1 i2 i3)) ?_ ?_ (by omega)
      · rw [List.length_append]; show _ + 9 ≤ _; omega
      · rw [zAc_n (by omega)]; exact ((congrFun (hW27 (B (3)) (by omega) (by omega)) k).trans ((congrFun (hW24 (B (3)) (by omega) (by omega)) k).trans ((congrFun (hW21 (B (3)) (by omega) (by omega)) k).trans ((congrFun (hW18 (B (3)) (by omega) (by omega)) k).trans ((congrFun (hW15 (B (3)) (by omega) (by omega)) k).trans ((congrFun (hfr18 (B (3)) (by omega)) k).trans ((zput_ne (by omega)).trans ((congrFun (zz_ne (by omega)) k))))))))).trans (iv.2 k)
      · simp only [zrm_L_randomRow, zrm_X9_init, zrm_X8_init, zrm_X12_init, zrm_X11_below, zrm_L_write, zrm_L_writeNumber, zrm_L_put, zrm_X12_tick, zrm_X12_join, zrm_X12_whyNot]; omega
      · simp only [zrm_L_randomRow, zrm_X9_init, zrm_X8_init, zrm_X12_init, zrm_X11_below, zrm_L_write, zrm_L_writeNumber, zrm_L_put, zrm_X12_tick, zrm_X12_join, zrm_X12_whyNot]; omega
