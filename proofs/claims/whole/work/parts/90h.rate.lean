/-! ===== a rate; a pay ===== -/
section
variable {L N : Nat} {xs : Nat → Int32} {h h' h0 h1 h2 : AH} {σ σ' y : SG} {tr : Nat → Nat} {u n b t c : Nat} {s : Nat × Bool} {a a' : Nat → Nat → Int32} {g : Nat → Int32}
def rz1 (σ : SG) (s : Nat × Bool) : Nat × Bool := wdS σ (SBYT.getD 0 []) s
def rn1 (σ : SG) (s : Nat × Bool) : Int32 × (Nat × Bool) := nmS σ 4 (rz1 σ s)
def rz2 (σ : SG) (s : Nat × Bool) : Nat × Bool := wdS σ (SBYT.getD 1 []) (rn1 σ s).2
def rn2 (σ : SG) (s : Nat × Bool) : Int32 × (Nat × Bool) := nmS σ 4 (rz2 σ s)
def rz3 (σ : SG) (s : Nat × Bool) : Nat × Bool := wdS σ (SBYT.getD 2 []) (rn2 σ s).2
def rn3 (σ : SG) (s : Nat × Bool) : Int32 × (Nat × Bool) := nmS σ 4 (rz3 σ s)
def rz4 (σ : SG) (s : Nat × Bool) : Nat × Bool := wdS σ (SBYT.getD 3 []) (rn3 σ s).2
def rA (σ : SG) (s : Nat × Bool) : Int32 × (Nat × Bool) := nmS σ 2 (rz4 σ s)
def rzw (σ : SG) (s : Nat × Bool) : Nat × Bool := wdS σ (SBYT.getD 4 []) (rA σ s).2
def rB (σ : SG) (s : Nat × Bool) : Int32 × (Nat × Bool) := nmS σ 2 (rzw σ s)
def rz5 (σ : SG) (s : Nat × Bool) : Nat × Bool := wdS σ (SBYT.getD 5 []) (rB σ s).2
def rn4 (σ : SG) (s : Nat × Bool) : Int32 × (Nat × Bool) := nmS σ 4 (rz5 σ s)
theorem rB_sp : spS σ (rz4 σ s) = rB σ s := by unfold spS rB rzw rA; rfl
def FX3 (a : Nat → Nat → Int32) (g : Nat → Int32) (b : Nat) (h h' : AH) : Prop := (kd h' = kd h ∧ ln h' = ln h ∧ fr h' = fr h ∧ ar h' = ar h) ∧ ai h' = a ∧ fi h' b = g ∧ ∀ r k, r ≠ b → ¬ (r = 15 ∧ (k = 2 ∨ k = 3)) → fi h' r k = fi h r k
theorem FX3.refl : FX3 (ai h) (fi h b) b h h := ⟨⟨rfl, rfl, rfl, rfl⟩, rfl, rfl, fun _ _ _ _ => rfl⟩
theorem FX3.v (F : FX3 a g b h h1) (G : FV a' h1 h2) (hb : b ≠ 15) : FX3 a' g b h h2 := by
  obtain ⟨⟨f1, f2, f3, f4⟩, f5, f6, f7⟩ := F
  obtain ⟨⟨g1, g2, g3, g4, g5⟩, g6⟩ := G
  refine ⟨⟨g1.trans f1, g2.trans f2, g3.trans f3, g4.trans f4⟩, g5, ?_, fun r k h1 h2 => (g6 r k h2).trans (f7 r k h1 h2)⟩
  rw [← f6]; funext k; exact g6 b k (by omega)
theorem FX3.ff (F : FX3 a g b h h1) (G : FW h1 h2) (hb : b ≠ 15) : FX3 a g b h h2 := by
  have := F.v (FV.of G) hb
  rwa [F.2.1] at this
theorem FX3.wi (F : FX3 a g b h h1) {k : Nat} {x : Int32} : FX3 a (va_up g k x) b h (sfi h1 b k x) := by
  obtain ⟨f1, f5, f6, f7⟩ := F
  refine ⟨f1, f5, ?_, fun r k h1 h2 => ?_⟩
  · funext j
    rw [fi_sfi]
    show _ = if j = k then x else g j
    by_cases e : j = k
    · rw [if_pos ⟨rfl, e⟩, if_pos e]
    · rw [if_neg (fun z => e z.2), if_neg e, f6]
  · rw [fi_sfi, if_neg (fun z => h1 z.1)]; exact f7 r k h1 h2
theorem FX3.bk (F : FX3 a g b h h') (K : BK h b) : BK h' b := by
  obtain ⟨⟨f1, f2, f3, f4⟩, -⟩ := F
  unfold BK at K ⊢
  rw [f1, f2, f3]
  exact K
theorem c_rate (K : BK h b) (T : TC h σ) (Z : TS h s) (hs : s.1 ≤ cn σ 63) (hN : 100 < N) : ∃ h', f_X8_readRate h N 15 b = some h' ∧ TS h' (rn4 σ s).2 ∧ FX3 (up2 (up2 (up2 (ai h) (b + 2) 0 (rA σ s).1) (b + 3) 0 (rB σ s).1) (b + 1) 0 0) (va_up (va_up (va_up (va_up (va_up (va_up (fi h b) 0 1) 1 (rn1 σ s).1) 2 (rn2 σ s).1) 3 (rn3 σ s).1) 4 (rn4 σ s).1) 5 1) b h h' := by
  have hb := K.2.2
  have h15 : b ≠ 15 := by omega
  have V0 := (FX3.refl (h := h) (b := b)).wi (k := 0) (x := 1)
  have T0 := T.sfi (b := b) (k := 0) (x := 1) h15
  have Z0 := Z.sfi (b := b) (k := 0) (x := 1) h15
  have p0 : xpz h b 11 0 1 = some (sfi h b 0 1) := by unfold xpz; rw [if_pos ⟨K.1.1, Or.inr rfl⟩]
  generalize sfi h b 0 1 = hA at V0 T0 Z0 p0
  obtain ⟨h1, r1, Z1, l1, F1⟩ := c_word (N := N) (i := 0) (by omega) T0 Z0 hs hN
  have T1 := T0.fw F1
  have V1 := V0.ff F1 h15
  obtain ⟨h2, r2, Z2, l2, F2⟩ := c_num (N := N) (m := 4) (s := rz1 σ s) (by omega) T1 Z1 l1 hN
  have V2 := (V1.ff F2 h15).wi (k := 1) (x := (rn1 σ s).1)
  have p2 : xpi h2 b 11 1 (rn1 σ s).1 = some (sfi h2 b 1 (rn1 σ s).1) := xpi_ok ((V1.ff F2 h15).bk K).1.1
  have T2 := (T1.fw F2).sfi (b := b) (k := 1) (x := (rn1 σ s).1) h15
  have Z2' := Z2.sfi (b := b) (k := 1) (x := (rn1 σ s).1) h15
  generalize sfi h2 b 1 (rn1 σ s).1 = hB at V2 T2 Z2' p2
  obtain ⟨h3, r3, Z3, l3, F3⟩ := c_word (N := N) (i := 1) (s := (rn1 σ s).2) (by omega) T2 Z2' l2 hN
  have T3 := T2.fw F3
  have V3 := V2.ff F3 h15
  obtain ⟨h4, r4, Z4, l4, F4⟩ := c_num (N := N) (m := 4) (s := rz2 σ s) (by omega) T3 Z3 l3 hN
  have V4 := (V3.ff F4 h15).wi (k := 2) (x := (rn2 σ s).1)
  have p4 : xpi h4 b 11 2 (rn2 σ s).1 = some (sfi h4 b 2 (rn2 σ s).1) := xpi_ok ((V3.ff F4 h15).bk K).1.1
  have T4 := (T3.fw F4).sfi (b := b) (k := 2) (x := (rn2 σ s).1) h15
  have Z4' := Z4.sfi (b := b) (k := 2) (x := (rn2 σ s).1) h15
  generalize sfi h4 b 2 (rn2 σ s).1 = hC at V4 T4 Z4' p4
  obtain ⟨h5, r5, Z5, l5, F5⟩ := c_word (N := N) (i := 2) (s := (rn2 σ s).2) (by omega) T4 Z4' l4 hN
  have T5 := T4.fw F5
  have V5 := V4.ff F5 h15
  obtain ⟨h6, r6, Z6, l6, F6⟩ := c_num (N := N) (m := 4) (s := rz3 σ s) (by omega) T5 Z5 l5 hN
  have V6 := (V5.ff F6 h15).wi (k := 3) (x := (rn3 σ s).1)
  have p6 : xpi h6 b 11 3 (rn3 σ s).1 = some (sfi h6 b 3 (rn3 σ s).1) := xpi_ok ((V5.ff F6 h15).bk K).1.1
  have T6 := (T5.fw F6).sfi (b := b) (k := 3) (x := (rn3 σ s).1) h15
  have Z6' := Z6.sfi (b := b) (k := 3) (x := (rn3 σ s).1) h15
  generalize sfi h6 b 3 (rn3 σ s).1 = hD at V6 T6 Z6' p6
  obtain ⟨h7, r7, Z7, l7, F7⟩ := c_word (N := N) (i := 3) (s := (rn3 σ s).2) (by omega) T6 Z6' l6 hN
  have T7 := T6.fw F7
  have V7 := V6.ff F7 h15
  obtain ⟨h8, r8, T8, Z8, l8, G8⟩ := c_span (N := N) (s := rz4 σ s) (i := 0) (V7.bk K) T7 Z7 l7 (by omega) hN
  rw [rB_sp] at Z8 l8 G8
  have V8 := V7.v G8 h15
  rw [V7.2.1] at V8
  obtain ⟨h9, r9, Z9, l9, F9⟩ := c_word (N := N) (i := 5) (s := (rB σ s).2) (by omega) T8 Z8 l8 hN
  have T9 := T8.fw F9
  have V9 := V8.ff F9 h15
  obtain ⟨hE, rE, ZE, lE, FE⟩ := c_num (N := N) (m := 4) (s := rz5 σ s) (by omega) T9 Z9 l9 hN
  have VE := (V9.ff FE h15).wi (k := 4) (x := (rn4 σ s).1)
  have pE : xpi hE b 11 4 (rn4 σ s).1 = some (sfi hE b 4 (rn4 σ s).1) := xpi_ok ((V9.ff FE h15).bk K).1.1
  have ZE' := ZE.sfi (b := b) (k := 4) (x := (rn4 σ s).1) h15
  have KE := VE.bk K
  generalize sfi hE b 4 (rn4 σ s).1 = hF at VE ZE' pE KE
  have gF : xgr hF b 11 6 = some (b + 1) := KE.gr (d := 0) (by omega)
  have wF : xis hF (b + 1) (nI 0) 0 = some (sai hF (b + 1) 0 0) := KE.is (d := 0) (i := 0) (by omega) (by omega)
  have wF' : xis hF (b + 1) 0 0 = some (sai hF (b + 1) 0 0) := wF
  have VF : FX3 (up2 (up2 (up2 (ai h) (b + 2) 0 (rA σ s).1) (b + 3) 0 (rB σ s).1) (b + 1) 0 0) (va_up (va_up (va_up (va_up (va_up (fi h b) 0 1) 1 (rn1 σ s).1) 2 (rn2 σ s).1) 3 (rn3 σ s).1) 4 (rn4 σ s).1) b h (sai hF (b + 1) 0 0) := by
    obtain ⟨f1, f5, f6, f7⟩ := VE
    refine ⟨f1, ?_, f6, f7⟩
    show up2 (ai hF) (b + 1) 0 0 = _
    rw [f5]
    rfl
  have pG : xpi (sai hF (b + 1) 0 0) b 11 5 1 = some (sfi (sai hF (b + 1) 0 0) b 5 1) := xpi_ok (VF.bk K).1.1
  have ZF : TS (sai hF (b + 1) 0 0) (rn4 σ s).2 := ZE'
  refine ⟨sfi (sai hF (b + 1) 0 0) b 5 1, ?_, ZF.sfi h15, VF.wi⟩
  have r2' : f_X8_number h1 N 15 4 = some ((rn1 σ s).1, h2) := r2
  have r4' : f_X8_number h3 N 15 4 = some ((rn2 σ s).1, h4) := r4
  have r6' : f_X8_number h5 N 15 4 = some ((rn3 σ s).1, h6) := r6
  have rE' : f_X8_number h9 N 15 4 = some ((rn4 σ s).1, hE) := rE
  have r8' : f_X8_readSpan h7 N 15 b 0 = some h8 := r8
  unfold f_X8_readRate
  rw [if_pos T.1.1, p0, obs, r1, obs, r2', obs]
  show (xpi h2 b 11 1 (rn1 σ s).1).bind _ = _
  rw [p2, obs, r3, obs, r4', obs]
  show (xpi h4 b 11 2 (rn2 σ s).1).bind _ = _
  rw [p4, obs, r5, obs, r6', obs]
  show (xpi h6 b 11 3 (rn3 σ s).1).bind _ = _
  rw [p6, obs, r7, obs, r8', obs, r9, obs, rE', obs]
  show (xpi hE b 11 4 (rn4 σ s).1).bind _ = _
  rw [pE, obs, gF, obs, wF', obs, pG, obs]
def Yr (y σ : SG) (t : Nat) (s : Nat × Bool) : SG := s2 (s2 (s2 (s2 (s2 (s2 (s2 y 15 t (rn1 σ s).1) 16 t (rn2 σ s).1) 17 t (rn3 σ s).1) 21 (4 * t) (rA σ s).1) 22 (4 * t) (rB σ s).1) 18 t (rn4 σ s).1) 19 t 1
theorem R_mn (X : TX σ) (Y : TY σ y) {k i m : Nat} (hk : k < 13) (hi : wcl.getD k 0 = i) (hi2 : i < 16) (hm : 1 ≤ m ∧ m ≤ 4) {z : Nat × Bool} {v : Int32 × (Nat × Bool)} (ez : z = wdS σ (SBYT.getD i []) s) (ev : v = nmS σ m z) (H : RS h (tS y s)) (hs : s.1 ≤ cn σ 63) (hN : 100 < N) : ∃ h1 h2, f_X12_must h N 100 (nI k) = some h1 ∧ RS h1 (tS y z) ∧ f_X12_number h1 N 100 (nI m) = some (v.1, h2) ∧ RS h2 (tS y v.2) ∧ FRc h h2 ∧ z.1 ≤ cn σ 63 ∧ v.2.1 ≤ cn σ 63 := by
  obtain ⟨h1, r1, H1, F1⟩ := R_must (N := N) X Y hk H hs hN
  rw [hi, ← ez] at H1
  have l1 : z.1 ≤ cn σ 63 := by rw [ez]; exact W_le hi2 hs
  obtain ⟨h2, r2, H2, F2⟩ := R_num (N := N) X Y hm H1 l1 hN
  rw [← ev] at r2 H2
  exact ⟨h1, h2, r1, H1, r2, H2, F1.trans F2, l1, by rw [ev]; exact N_le l1⟩
theorem r_rate (X : TX σ) (Y : TY σ y) (H : RS h (tS y s)) (hs : s.1 ≤ cn σ 63) (ht : t < 8) (hN : 100 < N) : ∃ h', f_X12_readsRate h N 100 (nI t) = some h' ∧ RS h' (tS (Yr y σ t s) (rn4 σ s).2) ∧ FRc h h' := by
  have e4 : (4 : Int32) * nI t = nI (4 * t) := by rw [show (4 : Int32) = nI 4 by decide, nI_mul]
  obtain ⟨a1, b1, r1, H1, s1', K1, F1, l1, m1⟩ := R_mn (N := N) (k := 2) (i := 0) (m := 4) (z := rz1 σ s) (v := rn1 σ s) X Y (by omega) (by decide) (by omega) (by omega) rfl rfl H hs hN
  have w1 := rw15 K1 (n := t) (x := (rn1 σ s).1) ht
  have Y1 : TY σ (s2 y 15 t (rn1 σ s).1) := Y.s2 (by decide) (by decide)
  have L1 : RS (sai b1 115 t (rn1 σ s).1) (tS (s2 y 15 t (rn1 σ s).1) (rn1 σ s).2) := by rw [← tS_s2]; exact w1.2
  obtain ⟨a2, b2, r2, H2, s2', K2, F2, l2, m2⟩ := R_mn (N := N) (k := 3) (i := 1) (m := 4) (z := rz2 σ s) (v := rn2 σ s) X Y1 (by omega) (by decide) (by omega) (by omega) rfl rfl L1 m1 hN
  have w2 := rw16 K2 (n := t) (x := (rn2 σ s).1) ht
  have Y2 := Y1.s2 (k := 16) (j := t) (x := (rn2 σ s).1) (by decide) (by decide)
  have L2 : RS (sai b2 116 t (rn2 σ s).1) (tS (s2 (s2 y 15 t (rn1 σ s).1) 16 t (rn2 σ s).1) (rn2 σ s).2) := by rw [← tS_s2]; exact w2.2
  obtain ⟨a3, b3, r3, H3, s3', K3, F3, l3, m3⟩ := R_mn (N := N) (k := 4) (i := 2) (m := 4) (z := rz3 σ s) (v := rn3 σ s) X Y2 (by omega) (by decide) (by omega) (by omega) rfl rfl L2 m2 hN
  have w3 := rw17 K3 (n := t) (x := (rn3 σ s).1) ht
  have Y3 := Y2.s2 (k := 17) (j := t) (x := (rn3 σ s).1) (by decide) (by decide)
  have L3 : RS (sai b3 117 t (rn3 σ s).1) (tS (s2 (s2 (s2 y 15 t (rn1 σ s).1) 16 t (rn2 σ s).1) 17 t (rn3 σ s).1) (rn3 σ s).2) := by rw [← tS_s2]; exact w3.2
  obtain ⟨a4, b4, r4, H4, s4', K4, F4, l4, m4⟩ := R_mn (N := N) (k := 5) (i := 3) (m := 2) (z := rz4 σ s) (v := rA σ s) X Y3 (by omega) (by decide) (by omega) (by omega) rfl rfl L3 m3 hN
  have w4 := rw21 K4 (n := 4 * t) (x := (rA σ s).1) (by omega)
  have Y4 := Y3.s2 (k := 21) (j := 4 * t) (x := (rA σ s).1) (by decide) (by decide)
  have L4 : RS (sai b4 121 (4 * t) (rA σ s).1) (tS (s2 (s2 (s2 (s2 y 15 t (rn1 σ s).1) 16 t (rn2 σ s).1) 17 t (rn3 σ s).1) 21 (4 * t) (rA σ s).1) (rA σ s).2) := by rw [← tS_s2]; exact w4.2
  obtain ⟨a5, b5, r5, H5, s5', K5, F5, l5, m5⟩ := R_mn (N := N) (k := 6) (i := 4) (m := 2) (z := rzw σ s) (v := rB σ s) X Y4 (by omega) (by decide) (by omega) (by omega) rfl rfl L4 m4 hN
  have w5 := rw22 K5 (n := 4 * t) (x := (rB σ s).1) (by omega)
  have Y5 := Y4.s2 (k := 22) (j := 4 * t) (x := (rB σ s).1) (by decide) (by decide)
  have L5 : RS (sai b5 122 (4 * t) (rB σ s).1) (tS (s2 (s2 (s2 (s2 (s2 y 15 t (rn1 σ s).1) 16 t (rn2 σ s).1) 17 t (rn3 σ s).1) 21 (4 * t) (rA σ s).1) 22 (4 * t) (rB σ s).1) (rB σ s).2) := by rw [← tS_s2]; exact w5.2
  obtain ⟨a6, b6, r6, H6, s6', K6, F6, l6, m6⟩ := R_mn (N := N) (k := 7) (i := 5) (m := 4) (z := rz5 σ s) (v := rn4 σ s) X Y5 (by omega) (by decide) (by omega) (by omega) rfl rfl L5 m5 hN
  have w6 := rw18 K6 (n := t) (x := (rn4 σ s).1) ht
  have w7 := rw19 w6.2 (n := t) (x := 1) ht
  refine ⟨sai (sai b6 118 t (rn4 σ s).1) 119 t 1, ?_, by unfold Yr; rw [← tS_s2, ← tS_s2]; exact w7.2, ?_⟩
  · have q1 : f_X12_must h N 100 2 = some a1 := r1
    have q2 : f_X12_number a1 N 100 4 = some ((rn1 σ s).1, b1) := s1'
    have q3 : f_X12_must (sai b1 115 t (rn1 σ s).1) N 100 3 = some a2 := r2
    have q4 : f_X12_number a2 N 100 4 = some ((rn2 σ s).1, b2) := s2'
    have q5 : f_X12_must (sai b2 116 t (rn2 σ s).1) N 100 4 = some a3 := r3
    have q6 : f_X12_number a3 N 100 4 = some ((rn3 σ s).1, b3) := s3'
    have q7 : f_X12_must (sai b3 117 t (rn3 σ s).1) N 100 5 = some a4 := r4
    have q8 : f_X12_number a4 N 100 2 = some ((rA σ s).1, b4) := s4'
    have q9 : f_X12_must (sai b4 121 (4 * t) (rA σ s).1) N 100 6 = some a5 := r5
    have q10 : f_X12_number a5 N 100 2 = some ((rB σ s).1, b5) := s5'
    have q11 : f_X12_must (sai b5 122 (4 * t) (rB σ s).1) N 100 7 = some a6 := r6
    have q12 : f_X12_number a6 N 100 4 = some ((rn4 σ s).1, b6) := s6'
    unfold f_X12_readsRate
    rw [if_pos H.1, q1, obs, rg15 H1, obs, q2, obs]
    show (xis b1 115 (nI t) (rn1 σ s).1).bind _ = _
    rw [w1.1, obs, q3, obs, rg16 H2, obs, q4, obs]
    show (xis b2 116 (nI t) (rn2 σ s).1).bind _ = _
    rw [w2.1, obs, q5, obs, rg17 H3, obs, q6, obs]
    show (xis b3 117 (nI t) (rn3 σ s).1).bind _ = _
    rw [w3.1, obs, q7, obs, rg21 H4, obs, q8, obs]
    show (xis b4 121 (4 * nI t) (rA σ s).1).bind _ = _
    rw [e4, w4.1, obs, q9, obs, rg22 H5, obs, q10, obs]
    show (xis b5 122 (nI (4 * t)) (rB σ s).1).bind _ = _
    rw [w5.1, obs, q11, obs, rg18 H6, obs, q12, obs]
    show (xis b6 118 (nI t) (rn4 σ s).1).bind _ = _
    rw [w6.1, obs, rg19 w6.2, obs, w7.1, obs]
  · have A : ∀ {z : AH} {r k : Nat} {x : Int32}, 100 ≤ r → r < 177 → FRc z (sai z r k x) := fun h1 h2 => FRc.a (by omega) (by omega)
    exact (((((((((((F1.trans (A (by omega) (by omega))).trans F2).trans (A (by omega) (by omega))).trans F3).trans (A (by omega) (by omega))).trans F4).trans (A (by omega) (by omega))).trans F5).trans (A (by omega) (by omega))).trans F6).trans (A (by omega) (by omega))).trans (A (by omega) (by omega))
end
