/-! ===== the cases, one after another ===== -/
section
variable {L N : Nat} {xs : Nat → Int32} {h h' h0 h1 h2 : AH} {σ σ' y : SG} {tr : Nat → Nat} {u n b i t c : Nat} {s : Nat × Bool} {f : Bool}
def nxt (σ : SG) (s : Nat × Bool) : Nat × Bool := wdS σ (SBYT.getD 15 []) (q8 σ s).2
def sq (σ : SG) : Nat → Nat × Bool → Nat × Bool
  | 0, s => s
  | j + 1, s => sq σ j (nxt σ s)
def gL (σ : SG) : Nat → Nat × Bool → Nat × Bool × Nat
  | 0, s => if (q8 σ s).2.2 = true then (1, false, (q8 σ s).2.1) else (1, decide (cn σ 63 ≤ (q8 σ s).2.1), (q8 σ s).2.1)
  | m + 1, s => if (q8 σ s).2.2 = true then (1, false, (q8 σ s).2.1) else if cn σ 63 ≤ (q8 σ s).2.1 then (1, true, (q8 σ s).2.1) else if (nxt σ s).2 = true then (1, false, (nxt σ s).1) else ((gL σ m (nxt σ s)).1 + 1, (gL σ m (nxt σ s)).2)
theorem q8_t (e : s.2 = true) : (q8 σ s).2 = s := by
  have h1 : q1 σ s = s := wdS_t e
  have h2 : q2 σ s = (0, s) := by unfold q2; rw [h1]; exact nmS_t e
  have h4 : (q4 σ s).2 = s := by
    by_cases k : kdS σ s = 3
    · unfold q4; rw [if_pos k, h2]
    · rw [q4_n k, h2, wdS_t e, nmS_t e]
  have h5 : e5 σ (q4 σ s).2 = s := by rw [h4]; exact wdS_t e
  have h6 : e6 σ (q4 σ s).2 = s := by unfold e6; rw [h5]; exact wdS_t e
  have h7 : e7 σ (q4 σ s).2 = s := by unfold e7; rw [h6]; exact wdS_t e
  unfold q8 e8
  rw [h7, nmS_t e]
theorem q8_le (hs : s.1 ≤ cn σ 63) : (q8 σ s).2.1 ≤ cn σ 63 := by
  have l4 := q4_le (σ := σ) hs
  have l5 : (e5 σ (q4 σ s).2).1 ≤ cn σ 63 := W_le (by omega) l4
  have l6 : (e6 σ (q4 σ s).2).1 ≤ cn σ 63 := by
    unfold e6
    by_cases q : eC σ (q4 σ s).2 = true
    · rw [if_pos q]; exact W_le (by omega) l5
    · rw [if_neg q]; exact W_le (by omega) l5
  have l7 : (e7 σ (q4 σ s).2).1 ≤ cn σ 63 := W_le (by omega) l6
  exact N_le l7
theorem nxt_le (hs : s.1 ≤ cn σ 63) : (nxt σ s).1 ≤ cn σ 63 := W_le (by omega) (q8_le hs)
theorem gL_le : ∀ (m : Nat) (s : Nat × Bool), s.1 ≤ cn σ 63 → (gL σ m s).2.2 ≤ cn σ 63
  | 0, s, hs => by
    unfold gL
    by_cases q : (q8 σ s).2.2 = true
    · rw [if_pos q]; exact q8_le hs
    · rw [if_neg q]; exact q8_le hs
  | m + 1, s, hs => by
    unfold gL
    by_cases q : (q8 σ s).2.2 = true
    · rw [if_pos q]; exact q8_le hs
    · rw [if_neg q]
      by_cases q2 : cn σ 63 ≤ (q8 σ s).2.1
      · rw [if_pos q2]; exact q8_le hs
      · rw [if_neg q2]
        by_cases q3 : (nxt σ s).2 = true
        · rw [if_pos q3]; exact nxt_le hs
        · rw [if_neg q3]; exact gL_le m _ (nxt_le hs)
theorem gL_n : ∀ (m : Nat) (s : Nat × Bool), 1 ≤ (gL σ m s).1 ∧ (gL σ m s).1 ≤ m + 1
  | 0, s => by
    unfold gL
    by_cases q : (q8 σ s).2.2 = true
    · rw [if_pos q]; exact ⟨Nat.le_refl _, by simp⟩
    · rw [if_neg q]; exact ⟨Nat.le_refl _, by simp⟩
  | m + 1, s => by
    have := gL_n m (nxt σ s)
    unfold gL
    by_cases q : (q8 σ s).2.2 = true
    · rw [if_pos q]; exact ⟨Nat.le_refl _, by simp⟩
    · rw [if_neg q]
      by_cases q2 : cn σ 63 ≤ (q8 σ s).2.1
      · rw [if_pos q2]; exact ⟨Nat.le_refl _, by simp⟩
      · rw [if_neg q2]
        by_cases q3 : (nxt σ s).2 = true
        · rw [if_pos q3]; exact ⟨Nat.le_refl _, by simp⟩
        · rw [if_neg q3]; exact ⟨by omega, by omega⟩
def col (h : AH) (b : Nat) (σ : SG) (i : Nat) (s : Nat × Bool) : Prop := ai h (b + 1) i = nI (kdS σ s) ∧ ai h (b + 2) i = (q2 σ s).1 ∧ ai h (b + 3) i = (q4 σ s).1 ∧ ai h (b + 4) i = bI (eC σ (q4 σ s).2) ∧ ai h (b + 5) i = (q8 σ s).1
theorem CAI_at {a : Nat → Nat → Int32} : CAI a b i σ s (b + 1) i = nI (kdS σ s) ∧ CAI a b i σ s (b + 2) i = (q2 σ s).1 ∧ CAI a b i σ s (b + 3) i = (q4 σ s).1 ∧ CAI a b i σ s (b + 4) i = bI (eC σ (q4 σ s).2) ∧ CAI a b i σ s (b + 5) i = (q8 σ s).1 := by
  unfold CAI
  refine ⟨?_, ?_, ?_, ?_, ?_⟩ <;> simp [up2_ite]
theorem CAI_ne {a : Nat → Nat → Int32} {r k : Nat} (e : ¬ (b + 1 ≤ r ∧ r ≤ b + 5 ∧ k = i)) : CAI a b i σ s r k = a r k := by
  unfold CAI
  rw [up2_ite, if_neg (by omega), up2_ite, if_neg (by omega), up2_ite, if_neg (by omega), up2_ite, if_neg (by omega), up2_ite, if_neg (by omega)]
/-- where the class writes as it reads a term's cases -/
def FP (b i : Nat) (h h' : AH) : Prop := (kd h' = kd h ∧ ln h' = ln h ∧ fr h' = fr h ∧ ar h' = ar h) ∧ (∀ r k, ¬ (b + 1 ≤ r ∧ r ≤ b + 5 ∧ i ≤ k) → ai h' r k = ai h r k) ∧ ∀ r k, ¬ (r = 15 ∧ (k = 2 ∨ k = 3)) → ¬ (r = b ∧ k = 5) → fi h' r k = fi h r k
theorem FP.trans {i' : Nat} (hi : i ≤ i') (F : FP b i h h1) (G : FP b i' h1 h2) : FP b i h h2 := by
  obtain ⟨⟨f1, f2, f3, f4⟩, f5, f6⟩ := F
  obtain ⟨⟨g1, g2, g3, g4⟩, g5, g6⟩ := G
  exact ⟨⟨g1.trans f1, g2.trans f2, g3.trans f3, g4.trans f4⟩, fun r k hk => (g5 r k (by omega)).trans (f5 r k hk), fun r k h1 h2 => (g6 r k h1 h2).trans (f6 r k h1 h2)⟩
theorem FP.fv (F : FV (CAI (ai h) b i σ s) h h') : FP b i h h' := by
  obtain ⟨⟨f1, f2, f3, f4, f5⟩, f6⟩ := F
  exact ⟨⟨f1, f2, f3, f4⟩, fun r k hk => by rw [f5, CAI_ne (by omega)], fun r k h1 _ => f6 r k h1⟩
theorem FP.fw (F : FW h h') : FP b i h h' := by
  obtain ⟨⟨f1, f2, f3, f4, f5⟩, f6⟩ := F
  exact ⟨⟨f1, f2, f3, f4⟩, fun r k hk => by rw [f5], fun r k h1 _ => f6 r k h1⟩
theorem FP.w {x : Int32} : FP b i h (sfi h b 5 x) := ⟨⟨rfl, rfl, rfl, rfl⟩, fun _ _ _ => rfl, fun r k _ h2 => by rw [fi_sfi, if_neg h2]⟩
theorem FP.bk (F : FP b i h h') (K : BK h b) : BK h' b := by
  obtain ⟨⟨f1, f2, f3, f4⟩, -⟩ := F
  unfold BK at K ⊢
  rw [f1, f2, f3]
  exact K
theorem TC.sfi (T : TC h σ) {k : Nat} {x : Int32} (hb : b ≠ 15) : TC (sfi h b k x) σ := by
  obtain ⟨⟨t1, t2, t3, t4, t5⟩, t6⟩ := T
  exact ⟨⟨t1, t2, t3, t4, by rw [fi_sfi, if_neg (by omega)]; exact t5⟩, t6⟩
theorem TS.sfi (Z : TS h s) {k : Nat} {x : Int32} (hb : b ≠ 15) : TS (sfi h b k x) s := ⟨by rw [fi_sfi, if_neg (by omega)]; exact Z.1, by rw [fi_sfi, if_neg (by omega)]; exact Z.2⟩
theorem c_payL : ∀ (m i n : Nat) (h : AH) (s : Nat × Bool), i + m = 3 → m + 1 < n → BK h b → TC h σ → TS h s → s.1 ≤ cn σ 63 → s.2 = false → 100 < N → ∃ h1 h', f_X8_readCase h N 15 b (nI i) = some h1 ∧ f_X8_readPay_b34 N n (sfi h1 b 5 (nI (i + 1))) 15 b (nI (i + 1)) = some h' ∧ FP b i h h' ∧ fi h' 15 2 = nI (gL σ m s).2.2 ∧ ((gL σ m s).2.1 = true → fi h' 15 3 = 0 ∧ cn σ 63 ≤ (gL σ m s).2.2 ∧ fi h' b 5 = nI (i + (gL σ m s).1) ∧ ∀ j, j < (gL σ m s).1 → col h' b σ (i + j) (sq σ j s)) ∧ ((gL σ m s).2.1 = false → ¬ fi h' 15 3 = 0 ∨ (gL σ m s).2.2 < cn σ 63) := by
  intro m
  induction m with
  | zero =>
    intro i n h s hi hn K T Z hs hf hN
    have hb := K.2.2
    obtain ⟨h1, r1, T1, Z1, l1, V1⟩ := c_case (N := N) K T Z hs (show i < 4 by omega) hN
    obtain ⟨n, rfl⟩ : ∃ n', n = n' + 1 := ⟨n - 1, by omega⟩
    have Z2 := Z1.sfi (b := b) (k := 5) (x := nI (i + 1)) (by omega)
    refine ⟨h1, sfi h1 b 5 (nI (i + 1)), r1, ?_, (FP.fv V1).trans (Nat.le_refl _) FP.w, ?_⟩
    · show f_X8_readPay_b34_body N (f_X8_readPay_b34 N n) (sfi h1 b 5 (nI (i + 1))) 15 b (nI (i + 1)) = _
      unfold f_X8_readPay_b34_body
      rw [if_pos (by rw [show i = 3 by omega]; decide)]
    · have hcol : col (sfi h1 b 5 (nI (i + 1))) b σ i s := by
        show ai h1 (b + 1) i = _ ∧ ai h1 (b + 2) i = _ ∧ ai h1 (b + 3) i = _ ∧ ai h1 (b + 4) i = _ ∧ ai h1 (b + 5) i = _
        rw [V1.1.2.2.2.2]; exact CAI_at
      unfold gL
      by_cases q : (q8 σ s).2.2 = true
      · rw [if_pos q]
        refine ⟨Z2.1, fun z => (by cases z), fun _ => Or.inl ?_⟩
        rw [Z2.2, q]; decide
      · rw [if_neg q]
        refine ⟨Z2.1, fun z => ⟨?_, of_decide_eq_true z, ?_, fun j hj => ?_⟩, fun z => Or.inr ?_⟩
        · rw [Z2.2]
          rcases e : (q8 σ s).2.2
          · rfl
          · exact absurd e q
        · rw [fi_sfi, if_pos ⟨rfl, rfl⟩]
        · have : j = 0 := by have hj' : j < 1 := hj; omega
          subst this
          exact hcol
        · have := of_decide_eq_false z
          show (q8 σ s).2.1 < cn σ 63
          omega
  | succ m ih =>
    intro i n h s hi hn K T Z hs hf hN
    have hb := K.2.2
    obtain ⟨h1, r1, T1, Z1, l1, V1⟩ := c_case (N := N) K T Z hs (show i < 4 by omega) hN
    obtain ⟨n, rfl⟩ : ∃ n', n = n' + 1 := ⟨n - 1, by omega⟩
    have Z2 := Z1.sfi (b := b) (k := 5) (x := nI (i + 1)) (by omega)
    have T2 := T1.sfi (b := b) (k := 5) (x := nI (i + 1)) (by omega)
    have P2 : FP b i h (sfi h1 b 5 (nI (i + 1))) := (FP.fv V1).trans (Nat.le_refl _) FP.w
    have K2 := P2.bk K
    have hcol : col (sfi h1 b 5 (nI (i + 1))) b σ i s := by
      show ai h1 (b + 1) i = _ ∧ ai h1 (b + 2) i = _ ∧ ai h1 (b + 3) i = _ ∧ ai h1 (b + 4) i = _ ∧ ai h1 (b + 5) i = _
      rw [V1.1.2.2.2.2]; exact CAI_at
    have e5' : fi (sfi h1 b 5 (nI (i + 1))) b 5 = nI (i + 1) := by rw [fi_sfi, if_pos ⟨rfl, rfl⟩]
    have k15 := T2.1.1
    have len := T2.1.2.2.2.2
    have h4 : ¬ (4 : Int32) ≤ nI (i + 1) := by rw [show (4 : Int32) = nI 4 by decide, nI_leI (by omega) (by omega)]; omega
    have hl := T.2.2.1
    generalize ehA : sfi h1 b 5 (nI (i + 1)) = hA at Z2 T2 P2 K2 hcol e5' k15 len
    have pre : f_X8_readPay_b34 N (n + 1) hA 15 b (nI (i + 1)) = (if bI (q8 σ s).2.2 = 0 then (if nI (cn σ 63) ≤ nI (q8 σ s).2.1 then some hA else (f_X8_word hA N 15 (9100 + 15)).bind fun q13 => (f_X8_readCase q13 N 15 b (nI (i + 1))).bind fun q14 => (xpi q14 b 11 5 (nI (i + 1) + 1)).bind fun h15 => f_X8_readPay_b34 N n h15 15 b (nI (i + 1) + 1)) else some hA) := by
      show f_X8_readPay_b34_body N (f_X8_readPay_b34 N n) hA 15 b (nI (i + 1)) = _
      unfold f_X8_readPay_b34_body
      rw [if_neg h4, xgi_ok k15, Z2.2, obs, xgi_ok k15, Z2.1, obs, xgi_ok k15, len, obs]
    unfold gL
    by_cases q : (q8 σ s).2.2 = true
    · rw [if_pos q]
      rw [q, if_neg (show ¬ bI true = 0 by decide)] at pre
      refine ⟨h1, hA, r1, (by rw [ehA]; exact pre), P2, Z2.1, fun z => (by cases z), fun _ => Or.inl ?_⟩
      rw [Z2.2, q]; decide
    · have q' : (q8 σ s).2.2 = false := by
        rcases e : (q8 σ s).2.2
        · rfl
        · exact absurd e q
      rw [if_neg q]
      rw [q', if_pos (show bI false = 0 by rfl)] at pre
      by_cases q2 : cn σ 63 ≤ (q8 σ s).2.1
      · rw [if_pos q2]
        rw [if_pos (by rw [nI_leI (by omega) (by omega)]; exact q2)] at pre
        refine ⟨h1, hA, r1, (by rw [ehA]; exact pre), P2, Z2.1, fun z => ⟨by rw [Z2.2, q']; rfl, q2, e5', fun j hj => ?_⟩, fun z => (by cases z)⟩
        have : j = 0 := by have hj' : j < 1 := hj; omega
        subst this
        exact hcol
      · rw [if_neg q2]
        rw [if_neg (by rw [nI_leI (by omega) (by omega)]; exact q2)] at pre
        obtain ⟨h3, r3, Z3, l3, F3⟩ := c_word (N := N) (i := 15) (by omega) T2 Z2 l1 hN
        have T3 := T2.fw F3
        have P3 : FP b i h h3 := P2.trans (Nat.le_refl _) (FP.fw F3)
        have K3 := P3.bk K
        have Z3' : TS h3 (nxt σ s) := Z3
        have l3' : (nxt σ s).1 ≤ cn σ 63 := l3
        have hcol3 : col h3 b σ i s := by
          unfold col at hcol ⊢
          rw [F3.1.2.2.2.2]; exact hcol
        rw [r3, obs] at pre
        by_cases q3 : (nxt σ s).2 = true
        · rw [if_pos q3]
          obtain ⟨h5, r5, T5, Z5, l5, V5⟩ := c_case (N := N) K3 T3 Z3' l3' (show i + 1 < 4 by omega) hN
          rw [q8_t q3] at Z5
          have Z6 := Z5.sfi (b := b) (k := 5) (x := nI (i + 1 + 1)) (by omega)
          have K5 := K3.fv V5
          have P5 : FP b i h (CRainCoverLaw_law_r3070_ac19d8.sfi h5 b 5 (nI (i + 1 + 1))) := (P3.trans (i' := i + 1) (by omega) (FP.fv V5)).trans (Nat.le_refl _) FP.w
          rw [r5, obs, xpi_ok K5.1.1, obs, nI_1] at pre
          obtain ⟨n2, rfl⟩ : ∃ n', n = n' + 1 := ⟨n - 1, by omega⟩
          have fin : f_X8_readPay_b34 N (n2 + 1) (CRainCoverLaw_law_r3070_ac19d8.sfi h5 b 5 (nI (i + 1 + 1))) 15 b (nI (i + 1 + 1)) = some (CRainCoverLaw_law_r3070_ac19d8.sfi h5 b 5 (nI (i + 1 + 1))) := by
            show f_X8_readPay_b34_body N (f_X8_readPay_b34 N n2) _ 15 b (nI (i + 1 + 1)) = _
            unfold f_X8_readPay_b34_body
            by_cases q6 : (4 : Int32) ≤ nI (i + 1 + 1)
            · rw [if_pos q6]
            · rw [if_neg q6, xgi_ok (show kd (CRainCoverLaw_law_r3070_ac19d8.sfi h5 b 5 (nI (i + 1 + 1))) 15 = 9 + 1 from T5.1.1), Z6.2, obs, q3, if_neg (show ¬ bI true = 0 by decide)]
          refine ⟨h1, _, r1, (by rw [ehA]; exact pre.trans fin), P5, Z6.1, fun z => (by cases z), fun _ => Or.inl ?_⟩
          rw [Z6.2, q3]; decide
        · have q3' : (nxt σ s).2 = false := by
            rcases e : (nxt σ s).2
            · rfl
            · exact absurd e q3
          rw [if_neg q3]
          obtain ⟨h5, h6, r5, r6, P6, a1, a2, a3⟩ := ih (i + 1) n h3 (nxt σ s) (by omega) (by omega) K3 T3 Z3' l3' q3' hN
          have kd5 : kd h5 b = 11 + 1 := by
            obtain ⟨h5', r5', -, -, -, V5⟩ := c_case (N := N) K3 T3 Z3' l3' (show i + 1 < 4 by omega) hN
            rw [r5] at r5'
            cases r5'
            exact (K3.fv V5).1.1
          rw [r5, obs, xpi_ok kd5, obs, nI_1] at pre
          refine ⟨h1, h6, r1, (by rw [ehA]; exact pre.trans r6), P3.trans (i' := i + 1) (by omega) P6, a1, fun z => ?_, a3⟩
          obtain ⟨z1, z2, z3, z4⟩ := a2 z
          refine ⟨z1, z2, by rw [z3]; congr 1; omega, fun j hj => ?_⟩
          rcases j with _ | j
          · show col h6 b σ i s
            unfold col at hcol3 ⊢
            have pp := P6.2.1
            rw [pp (b + 1) i (by omega), pp (b + 2) i (by omega), pp (b + 3) i (by omega), pp (b + 4) i (by omega), pp (b + 5) i (by omega)]
            exact hcol3
          · have := z4 j (by omega)
            rw [show i + 1 + j = i + (j + 1) by omega] at this
            exact this
def colR (y σ : SG) (c : Nat) (s : Nat × Bool) : Prop := y.2 20 c = nI (8 + kdS σ s) ∧ y.2 21 c = (q2 σ s).1 ∧ y.2 22 c = (q4 σ s).1 ∧ y.2 24 c = bI (decide (tb σ (e5 σ (q4 σ s).2).1 = nI 60)) ∧ y.2 23 c = (q8 σ s).1
/-- where the reference writes as it reads a term's cases -/
def YP (t i : Nat) (y y' : SG) : Prop := (∀ k, y'.1 k = y.1 k) ∧ ∀ k j, ¬ (k = 19 ∧ j = t) → ¬ (20 ≤ k ∧ k ≤ 24 ∧ 4 * t + i ≤ j ∧ j < 4 * t + 4) → y'.2 k j = y.2 k j
theorem YP.trans {y1 y2 : SG} {i' : Nat} (hi : i ≤ i') (F : YP t i y y1) (G : YP t i' y1 y2) : YP t i y y2 := ⟨fun k => (G.1 k).trans (F.1 k), fun k j h1 h2 => (G.2 k j h1 (by omega)).trans (F.2 k j h1 h2)⟩
theorem YP.ty {y' : SG} (F : YP t i y y') (Y : TY σ y) : TY σ y' := by
  obtain ⟨a, b⟩ := F
  refine ⟨by rw [a]; exact Y.1, ?_, ?_⟩
  · rw [← Y.2.1]; funext j; exact b 62 j (by omega) (by omega)
  · rw [← Y.2.2]; funext j; exact b 71 j (by omega) (by omega)
theorem Yc_at : colR (Yc y σ c s) σ c s := by
  unfold colR Yc
  refine ⟨?_, ?_, ?_, ?_, ?_⟩ <;> simp [s2_ite]
theorem Yc_ne {k j : Nat} (e : ¬ (20 ≤ k ∧ k ≤ 24 ∧ j = c)) : (Yc y σ c s).2 k j = y.2 k j := by
  unfold Yc
  rw [s2_ite, if_neg (by omega), s2_ite, if_neg (by omega), s2_ite, if_neg (by omega), s2_ite, if_neg (by omega), s2_ite, if_neg (by omega)]
theorem Yc_yp (hi : i < 4) : YP t i y (Yc y σ (4 * t + i) s) := ⟨fun _ => rfl, fun k j _ h2 => Yc_ne (by omega)⟩
theorem r_stop {m : Nat} {x : Int32} (H : RS h (tS y s)) (ht : t < 8) : ∃ h', f_X12_readsPay_b36 N (m + 1) h 100 (nI t) x 0 = some h' ∧ RS h' (tS (s2 y 19 t x) s) ∧ FRc h h' := by
  have w := rw19 H (n := t) (x := x) ht
  refine ⟨sai h 119 t x, ?_, w.2, FRc.a (by omega) (by omega)⟩
  show f_X12_readsPay_b36_body N (f_X12_readsPay_b36 N m) h 100 (nI t) x 0 = _
  unfold f_X12_readsPay_b36_body
  rw [if_pos rfl, rg19 H, obs, w.1, obs]
theorem s19_yp {x : Int32} : YP t i y (s2 y 19 t x) := ⟨fun _ => rfl, fun k j h1 _ => by rw [s2_ite, if_neg h1]⟩
theorem wd32 {e : Nat × Bool} (h0 : e.2 = false) (q : ¬ tb σ e.1 = nI 32) : wdS σ (SBYT.getD 15 []) e = (e.1, true) := by
  show wdS σ (nI 32 :: [97, 110, 100, 32]) e = _
  unfold wdS
  rw [if_neg (by rw [h0]; decide), if_neg q]
theorem r_payL (X : TX σ) (ht : t < 8) : ∀ (m i n : Nat) (h : AH) (y : SG) (s : Nat × Bool), i + m = 3 → m + 2 < n → RS h (tS y s) → TY σ y → s.1 ≤ cn σ 63 → 100 < N → ∃ h' y' f, f_X12_readsPay_b36 N n h 100 (nI t) (nI i) 1 = some h' ∧ RS h' (tS y' ((gL σ m s).2.2, f)) ∧ FRc h h' ∧ YP t i y y' ∧ y'.2 19 t = nI (i + (gL σ m s).1) ∧ ((gL σ m s).2.1 = true → f = false ∧ ∀ j, j < (gL σ m s).1 → colR y' σ (4 * t + (i + j)) (sq σ j s)) ∧ ((gL σ m s).2.1 = false → f = true ∨ (gL σ m s).2.2 < cn σ 63) := by
  intro m
  have step : ∀ (i n : Nat) (h : AH) (y : SG) (s : Nat × Bool), i < 4 → RS h (tS y s) → TY σ y → s.1 ≤ cn σ 63 → 100 < N → ∃ h1, RS h1 (tS (Yc y σ (4 * t + i) s) (q8 σ s).2) ∧ FRc h h1 ∧ f_X12_readsPay_b36 N (n + 1) h 100 (nI t) (nI i) 1 = (if bI (q8 σ s).2.2 = 0 then (if 4 ≤ nI (i + 1) then f_X12_readsPay_b36 N n h1 100 (nI t) (nI (i + 1)) 0 else (if tb σ (q8 σ s).2.1 = 32 then f_X12_readsPay_b82 N (f_X12_readsPay_b36 N n) h1 100 (nI t) (nI (i + 1)) 1 else f_X12_readsPay_b36 N n h1 100 (nI t) (nI (i + 1)) 0)) else f_X12_readsPay_b36 N n h1 100 (nI t) (nI (i + 1)) 0) := by
    intro i n h y s hi H Y hs hN
    have e4 : (4 : Int32) * nI t + nI i = nI (4 * t + i) := by rw [show (4 : Int32) = nI 4 by decide, nI_mul, nI_add]
    obtain ⟨h1, r1, H1, F1⟩ := r_case (N := N) (c := 4 * t + i) X Y H hs (by omega) hN
    refine ⟨h1, H1, F1, ?_⟩
    have Y1 := (Yc_yp (y := y) (σ := σ) (s := s) (t := t) hi).ty Y
    have bt := R_byte X Y1 H1 (q8_le hs)
    show f_X12_readsPay_b36_body N (f_X12_readsPay_b36 N n) h 100 (nI t) (nI i) 1 = _
    unfold f_X12_readsPay_b36_body f_X12_readsPay_b81
    have b0 : ∀ x, f_X12_readsPay_b82 N (f_X12_readsPay_b36 N n) h1 100 (nI t) x 0 = f_X12_readsPay_b36 N n h1 100 (nI t) x 0 := fun x => by unfold f_X12_readsPay_b82; rw [if_pos rfl]
    rw [if_neg (show ¬ (1 : Int32) = 0 by decide), e4, r1, obs, RS.gi H1, tS_70, obs, nI_1, b0, RS.gi H1, tS_69, obs, bt, obs]
  induction m with
  | zero =>
    intro i n h y s hi hn H Y hs hN
    obtain ⟨n, rfl⟩ : ∃ n', n = n' + 2 := ⟨n - 2, by omega⟩
    obtain ⟨h1, H1, F1, pre⟩ := step i (n + 1) h y s (by omega) H Y hs hN
    obtain ⟨h2, r2, H2, F2⟩ := r_stop (N := N) (m := n) (x := nI (i + 1)) H1 ht
    have hcol : colR (s2 (Yc y σ (4 * t + i) s) 19 t (nI (i + 1))) σ (4 * t + i) s := by
      have := Yc_at (y := y) (σ := σ) (c := 4 * t + i) (s := s)
      unfold colR at this ⊢
      rw [s2_row (by decide), s2_row (by decide), s2_row (by decide), s2_row (by decide), s2_row (by decide)]
      exact this
    have e19 : (s2 (Yc y σ (4 * t + i) s) 19 t (nI (i + 1))).2 19 t = nI (i + 1) := by rw [s2_ite, if_pos ⟨rfl, rfl⟩]
    have yp : YP t i y (s2 (Yc y σ (4 * t + i) s) 19 t (nI (i + 1))) := (Yc_yp (by omega)).trans (Nat.le_refl _) s19_yp
    have res : f_X12_readsPay_b36 N (n + 2) h 100 (nI t) (nI i) 1 = some h2 := by
      rw [pre, if_pos (show (4 : Int32) ≤ nI (i + 1) by rw [show i = 3 by omega]; decide), r2, ite_self]
    unfold gL
    by_cases q : (q8 σ s).2.2 = true
    · rw [if_pos q]
      exact ⟨h2, _, (q8 σ s).2.2, res, H2, F1.trans F2, yp, e19, fun z => (by cases z), fun _ => Or.inl q⟩
    · rw [if_neg q]
      refine ⟨h2, _, (q8 σ s).2.2, res, H2, F1.trans F2, yp, e19, fun z => ⟨?_, fun j hj => ?_⟩, fun z => Or.inr ?_⟩
      · rcases e : (q8 σ s).2.2
        · rfl
        · exact absurd e q
      · have : j = 0 := by have hj' : j < 1 := hj; omega
        subst this
        exact hcol
      · have := of_decide_eq_false z
        show (q8 σ s).2.1 < cn σ 63
        omega
  | succ m ih =>
    intro i n h y s hi hn H Y hs hN
    obtain ⟨n, rfl⟩ : ∃ n', n = n' + 2 := ⟨n - 2, by omega⟩
    obtain ⟨h1, H1, F1, pre⟩ := step i (n + 1) h y s (by omega) H Y hs hN
    have Y1 := (Yc_yp (y := y) (σ := σ) (s := s) (t := t) (show i < 4 by omega)).ty Y
    have h4 : ¬ (4 : Int32) ≤ nI (i + 1) := by rw [show (4 : Int32) = nI 4 by decide, nI_leI (by omega) (by omega)]; omega
    rw [if_neg h4] at pre
    have hcol0 := Yc_at (y := y) (σ := σ) (c := 4 * t + i) (s := s)
    have hcol : ∀ x, colR (s2 (Yc y σ (4 * t + i) s) 19 t x) σ (4 * t + i) s := fun x => by
      unfold colR at hcol0 ⊢
      rw [s2_row (by decide), s2_row (by decide), s2_row (by decide), s2_row (by decide), s2_row (by decide)]
      exact hcol0
    have stop : ∀ h1' s', RS h1' (tS (Yc y σ (4 * t + i) s) s') → FRc h h1' → f_X12_readsPay_b36 N (n + 2) h 100 (nI t) (nI i) 1 = f_X12_readsPay_b36 N (n + 1) h1' 100 (nI t) (nI (i + 1)) 0 → ∃ h' y', f_X12_readsPay_b36 N (n + 2) h 100 (nI t) (nI i) 1 = some h' ∧ RS h' (tS y' s') ∧ FRc h h' ∧ YP t i y y' ∧ y'.2 19 t = nI (i + 1) ∧ colR y' σ (4 * t + i) s := by
      intro h1' s' H1' F1' e
      obtain ⟨h2, r2, H2, F2⟩ := r_stop (N := N) (m := n) (x := nI (i + 1)) H1' ht
      exact ⟨h2, _, e.trans r2, H2, F1'.trans F2, (Yc_yp (by omega)).trans (Nat.le_refl _) s19_yp, by rw [s2_ite, if_pos ⟨rfl, rfl⟩], hcol _⟩
    unfold gL
    by_cases q : (q8 σ s).2.2 = true
    · rw [if_pos q]
      rw [q, if_neg (show ¬ bI true = 0 by decide)] at pre
      obtain ⟨h2, y2, r2, H2, F2, P2, e2, -⟩ := stop h1 _ H1 F1 pre
      exact ⟨h2, y2, (q8 σ s).2.2, r2, H2, F2, P2, e2, fun z => (by cases z), fun _ => Or.inl q⟩
    · have q' : (q8 σ s).2.2 = false := by
        rcases e : (q8 σ s).2.2
        · rfl
        · exact absurd e q
      rw [if_neg q]
      rw [q', if_pos (show bI false = 0 by rfl)] at pre
      by_cases q3 : tb σ (q8 σ s).2.1 = nI 32
      · have hp : (q8 σ s).2.1 < cn σ 63 := tb_lt (c := 32) (by omega) q3
        rw [if_neg (show ¬ cn σ 63 ≤ (q8 σ s).2.1 by omega)]
        rw [if_pos (show tb σ (q8 σ s).2.1 = 32 from q3)] at pre
        obtain ⟨h3, r3, H3, F3⟩ := R_must (N := N) (k := 12) X Y1 (by omega) H1 (q8_le hs) hN
        rw [show wcl.getD 12 0 = 15 by decide] at H3
        have H3' : RS h3 (tS (Yc y σ (4 * t + i) s) (nxt σ s)) := H3
        have r3' : f_X12_must h1 N 100 12 = some h3 := by rw [show (12 : Int32) = nI 12 by decide]; exact r3
        have e82 : f_X12_readsPay_b82 N (f_X12_readsPay_b36 N (n + 1)) h1 100 (nI t) (nI (i + 1)) 1 = (if bI (nxt σ s).2 = 0 then f_X12_readsPay_b36 N (n + 1) h3 100 (nI t) (nI (i + 1)) 1 else f_X12_readsPay_b36 N (n + 1) h3 100 (nI t) (nI (i + 1)) 0) := by
          unfold f_X12_readsPay_b82 f_X12_readsPay_b105
          rw [if_neg (show ¬ (1 : Int32) = 0 by decide), r3', obs, RS.gi H3', tS_70, obs]
        rw [e82] at pre
        by_cases q4 : (nxt σ s).2 = true
        · rw [if_pos q4]
          rw [q4, if_neg (show ¬ bI true = 0 by decide)] at pre
          obtain ⟨h2, y2, r2, H2, F2, P2, e2, -⟩ := stop h3 _ H3' (F1.trans F3) pre
          exact ⟨h2, y2, (nxt σ s).2, r2, H2, F2, P2, e2, fun z => (by cases z), fun _ => Or.inl q4⟩
        · have q4' : (nxt σ s).2 = false := by
            rcases e : (nxt σ s).2
            · rfl
            · exact absurd e q4
          rw [if_neg q4]
          rw [q4', if_pos (show bI false = 0 by rfl)] at pre
          obtain ⟨h5, y5, f5, r5, H5, F5, P5, e5, a1, a2⟩ := ih (i + 1) (n + 1) h3 (Yc y σ (4 * t + i) s) (nxt σ s) (by omega) (by omega) H3' Y1 (nxt_le hs) hN
          refine ⟨h5, y5, f5, pre.trans r5, H5, (F1.trans F3).trans F5, (Yc_yp (by omega)).trans (i' := i + 1) (by omega) P5, by rw [e5]; congr 1; omega, fun z => ⟨(a1 z).1, fun j hj => ?_⟩, a2⟩
          rcases j with _ | j
          · have pp := P5.2
            unfold colR at hcol0 ⊢
            rw [Nat.add_zero, pp 20 (4 * t + i) (by omega) (by omega), pp 21 (4 * t + i) (by omega) (by omega), pp 22 (4 * t + i) (by omega) (by omega), pp 23 (4 * t + i) (by omega) (by omega), pp 24 (4 * t + i) (by omega) (by omega)]
            exact hcol0
          · have := (a1 z).2 j (by omega)
            rw [show i + 1 + j = i + (j + 1) by omega] at this
            exact this
      · rw [if_neg (show ¬ tb σ (q8 σ s).2.1 = 32 from q3)] at pre
        obtain ⟨h2, y2, r2, H2, F2, P2, e2, c2⟩ := stop h1 _ H1 F1 pre
        have H2' : RS h2 (tS y2 ((q8 σ s).2.1, (q8 σ s).2.2)) := H2
        by_cases q2 : cn σ 63 ≤ (q8 σ s).2.1
        · rw [if_pos q2]
          refine ⟨h2, y2, (q8 σ s).2.2, r2, H2', F2, P2, e2, fun z => ⟨q', fun j hj => ?_⟩, fun z => (by cases z)⟩
          have : j = 0 := by have hj' : j < 1 := hj; omega
          subst this
          exact c2
        · rw [if_neg q2]
          have en : nxt σ s = ((q8 σ s).2.1, true) := wd32 q' q3
          rw [if_pos (by rw [en])]
          refine ⟨h2, y2, (q8 σ s).2.2, r2, ?_, F2, P2, e2, fun z => (by cases z), fun _ => Or.inr ?_⟩
          · rw [en]; exact H2'
          · show (nxt σ s).1 < cn σ 63
            rw [en]
            show (q8 σ s).2.1 < cn σ 63
            omega
end
