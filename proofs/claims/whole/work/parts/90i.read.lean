/-! ===== pay; sound ===== -/
section
variable {L N : Nat} {xs : Nat → Int32} {h h' h0 h1 h2 : AH} {σ σ' y : SG} {tr : Nat → Nat} {u n b t c : Nat} {s : Nat × Bool} {a a' : Nat → Nat → Int32} {g : Nat → Int32}
def py1 (σ : SG) (s : Nat × Bool) : Nat × Bool := wdS σ (SBYT.getD 6 []) s
def pyn (σ : SG) (s : Nat × Bool) : Int32 × (Nat × Bool) := nmS σ 4 (py1 σ s)
def py3 (σ : SG) (s : Nat × Bool) : Nat × Bool := wdS σ (SBYT.getD 7 []) (pyn σ s).2
def gP (σ : SG) (s : Nat × Bool) : Nat × Bool × Nat := if (py3 σ s).2 = true then (0, false, (py3 σ s).1) else gL σ 3 (py3 σ s)
def FRB (b : Nat) (h h' : AH) : Prop := (kd h' = kd h ∧ ln h' = ln h ∧ fr h' = fr h ∧ ar h' = ar h) ∧ (∀ r, ¬ (b + 1 ≤ r ∧ r ≤ b + 5) → ai h' r = ai h r) ∧ ∀ r k, r ≠ b → ¬ (r = 15 ∧ (k = 2 ∨ k = 3)) → fi h' r k = fi h r k
theorem FX3.rb (F : FX3 a g b h h') (ha : ∀ r, ¬ (b + 1 ≤ r ∧ r ≤ b + 5) → a r = ai h r) : FRB b h h' := ⟨F.1, fun r hr => by rw [F.2.1]; exact ha r hr, F.2.2.2⟩
theorem FRB.trans (F : FRB b h h1) (G : FRB b h1 h2) : FRB b h h2 := by
  obtain ⟨⟨f1, f2, f3, f4⟩, f5, f6⟩ := F
  obtain ⟨⟨g1, g2, g3, g4⟩, g5, g6⟩ := G
  exact ⟨⟨g1.trans f1, g2.trans f2, g3.trans f3, g4.trans f4⟩, fun r hr => (g5 r hr).trans (f5 r hr), fun r k h1 h2 => (g6 r k h1 h2).trans (f6 r k h1 h2)⟩
theorem FP.rb {i : Nat} (F : FP b i h h') : FRB b h h' := by
  obtain ⟨f1, f5, f6⟩ := F
  exact ⟨f1, fun r hr => funext (fun k => f5 r k (by omega)), fun r k h1 h2 => f6 r k h2 (by omega)⟩
theorem c_pay (K : BK h b) (T : TC h σ) (Z : TS h s) (hs : s.1 ≤ cn σ 63) (hN : 1000 < N) : ∃ h', f_X8_readPay h N 15 b = some h' ∧ FRB b h h' ∧ fi h' b 0 = fi h b 0 ∧ fi h' 15 2 = nI (gP σ s).2.2 ∧ ((gP σ s).2.1 = true → fi h' 15 3 = 0 ∧ cn σ 63 ≤ (gP σ s).2.2 ∧ fi h' b 1 = (pyn σ s).1 ∧ fi h' b 5 = nI (gP σ s).1 ∧ ∀ j, j < (gP σ s).1 → col h' b σ j (sq σ j (py3 σ s))) ∧ ((gP σ s).2.1 = false → ¬ fi h' 15 3 = 0 ∨ (gP σ s).2.2 < cn σ 63) := by
  have hb := K.2.2
  have h15 : b ≠ 15 := by omega
  obtain ⟨h1, r1, Z1, l1, F1⟩ := c_word (N := N) (i := 6) (by omega) T Z hs (by omega)
  have T1 := T.fw F1
  have V1 := (FX3.refl (h := h) (b := b)).ff F1 h15
  obtain ⟨h2, r2, Z2, l2, F2⟩ := c_num (N := N) (m := 4) (s := py1 σ s) (by omega) T1 Z1 l1 (by omega)
  have V2 := (V1.ff F2 h15).wi (k := 1) (x := (pyn σ s).1)
  have p2 : xpi h2 b 11 1 (pyn σ s).1 = some (sfi h2 b 1 (pyn σ s).1) := xpi_ok ((V1.ff F2 h15).bk K).1.1
  have T2 := (T1.fw F2).sfi (b := b) (k := 1) (x := (pyn σ s).1) h15
  have Z2' := Z2.sfi (b := b) (k := 1) (x := (pyn σ s).1) h15
  generalize sfi h2 b 1 (pyn σ s).1 = hB at V2 T2 Z2' p2
  obtain ⟨h3, r3, Z3, l3, F3⟩ := c_word (N := N) (i := 7) (s := (pyn σ s).2) (by omega) T2 Z2' l2 (by omega)
  have T3 := T2.fw F3
  have V3 := V2.ff F3 h15
  have K3 := V3.bk K
  have Z3' : TS h3 (py3 σ s) := Z3
  have l3' : (py3 σ s).1 ≤ cn σ 63 := l3
  have R3 : FRB b h h3 := V3.rb (fun _ _ => rfl)
  have f0 : fi h3 b 0 = fi h b 0 := by rw [V3.2.2.1]; rfl
  have f1 : fi h3 b 1 = (pyn σ s).1 := by rw [V3.2.2.1]; exact if_pos rfl
  have r2' : f_X8_number h1 N 15 4 = some ((pyn σ s).1, h2) := r2
  have pre : ∀ h5, f_X8_readCase h3 N 15 b (nI 0) = some h5 → kd h5 b = 11 + 1 → f_X8_readPay h N 15 b = f_X8_readPay_b34 N N (sfi h5 b 5 (nI 1)) 15 b (nI 1) := by
    intro h5 r5 k5
    have r5' : f_X8_readCase h3 N 15 b 0 = some h5 := r5
    unfold f_X8_readPay
    rw [if_pos T.1.1, r1, obs, r2', obs]
    show (xpi h2 b 11 1 (pyn σ s).1).bind _ = _
    rw [p2, obs, r3, obs, r5', obs, xpi_ok k5, obs]
    rfl
  unfold gP
  by_cases q : (py3 σ s).2 = true
  · rw [if_pos q]
    obtain ⟨h5, r5, T5, Z5, l5, V5⟩ := c_case (N := N) K3 T3 Z3' l3' (show 0 < 4 by omega) (by omega)
    rw [q8_t q] at Z5
    have P5 := (FP.fv V5).trans (Nat.le_refl _) (FP.w (x := nI 1))
    have Z6 := Z5.sfi (b := b) (k := 5) (x := nI 1) h15
    refine ⟨sfi h5 b 5 (nI 1), ?_, R3.trans P5.rb, ?_, Z6.1, fun z => (by cases z), fun _ => Or.inl ?_⟩
    · rw [pre h5 r5 (K3.fv V5).1.1]
      obtain ⟨n2, rfl⟩ : ∃ n', N = n' + 1 := ⟨N - 1, by omega⟩
      show f_X8_readPay_b34_body (n2 + 1) (f_X8_readPay_b34 (n2 + 1) n2) _ 15 b (nI 1) = _
      unfold f_X8_readPay_b34_body
      rw [if_neg (by decide), xgi_ok (show kd (CRainCoverLaw_law_r3070_ac19d8.sfi h5 b 5 (nI 1)) 15 = 9 + 1 from T5.1.1), Z6.2, obs, q, if_neg (show ¬ bI true = 0 by decide)]
    · rw [P5.2.2 b 0 (by omega) (by omega)]; exact f0
    · rw [Z6.2, q]; decide
  · rw [if_neg q]
    have q' : (py3 σ s).2 = false := by
      rcases e : (py3 σ s).2
      · rfl
      · exact absurd e q
    obtain ⟨h5, h6, r5, r6, P6, a1, a2, a3⟩ := c_payL (N := N) (b := b) (σ := σ) 3 0 N h3 (py3 σ s) (by omega) (by omega) K3 T3 Z3' l3' q' (by omega)
    have kd5 : kd h5 b = 11 + 1 := by
      obtain ⟨h5', r5', -, -, -, V5⟩ := c_case (N := N) K3 T3 Z3' l3' (show 0 < 4 by omega) (by omega)
      rw [r5] at r5'
      cases r5'
      exact (K3.fv V5).1.1
    refine ⟨h6, (pre h5 r5 kd5).trans r6, R3.trans P6.rb, ?_, a1, fun z => ?_, a3⟩
    · rw [P6.2.2 b 0 (by omega) (by omega)]; exact f0
    · obtain ⟨z1, z2, z3, z4⟩ := a2 z
      refine ⟨z1, z2, by rw [P6.2.2 b 1 (by omega) (by omega)]; exact f1, by rw [z3, Nat.zero_add], fun j hj => ?_⟩
      have := z4 j hj
      rwa [Nat.zero_add] at this
def YPB (t : Nat) (y y' : SG) : Prop := (∀ k, y'.1 k = y.1 k) ∧ ∀ k j, ¬ (14 ≤ k ∧ k ≤ 19 ∧ j = t) → ¬ (20 ≤ k ∧ k ≤ 24 ∧ 4 * t ≤ j ∧ j < 4 * t + 4) → y'.2 k j = y.2 k j
theorem r_pay (X : TX σ) (Y : TY σ y) (H : RS h (tS y s)) (hs : s.1 ≤ cn σ 63) (ht : t < 8) (hN : 1000 < N) : ∃ h' y' f, f_X12_readsPay h N 100 (nI t) = some h' ∧ RS h' (tS y' ((gP σ s).2.2, f)) ∧ FRc h h' ∧ YPB t y y' ∧ (y'.2 14 = y.2 14 ∧ y'.2 17 = y.2 17 ∧ y'.2 18 = y.2 18) ∧ ((gP σ s).2.1 = true → f = false ∧ y'.2 15 t = (pyn σ s).1 ∧ y'.2 19 t = nI (gP σ s).1 ∧ ∀ j, j < (gP σ s).1 → colR y' σ (4 * t + j) (sq σ j (py3 σ s))) ∧ ((gP σ s).2.1 = false → f = true ∨ (gP σ s).2.2 < cn σ 63) := by
  obtain ⟨a1, b1, r1, H1, s1', K1, F1, l1, m1⟩ := R_mn (N := N) (k := 0) (i := 6) (m := 4) (z := py1 σ s) (v := pyn σ s) X Y (by omega) (by decide) (by omega) (by omega) rfl rfl H hs (by omega)
  have w1 := rw15 K1 (n := t) (x := (pyn σ s).1) ht
  have Y1 : TY σ (s2 y 15 t (pyn σ s).1) := Y.s2 (by decide) (by decide)
  have L1 : RS (sai b1 115 t (pyn σ s).1) (tS (s2 y 15 t (pyn σ s).1) (pyn σ s).2) := by rw [← tS_s2]; exact w1.2
  obtain ⟨h2, r2, H2, F2⟩ := R_must (N := N) (k := 1) X Y1 (by omega) L1 m1 (by omega)
  rw [show wcl.getD 1 0 = 7 by decide] at H2
  have H2' : RS h2 (tS (s2 y 15 t (pyn σ s).1) (py3 σ s)) := H2
  have l2 : (py3 σ s).1 ≤ cn σ 63 := W_le (by omega) m1
  have G2 : FRc h h2 := (F1.trans (FRc.a (by omega) (by omega))).trans F2
  have pre : f_X12_readsPay h N 100 (nI t) = (if bI (py3 σ s).2 = 0 then f_X12_readsPay_b36 N N h2 100 (nI t) (nI 0) 1 else f_X12_readsPay_b36 N N h2 100 (nI t) (nI 0) 0) := by
    have q1 : f_X12_must h N 100 0 = some a1 := r1
    have q2 : f_X12_number a1 N 100 4 = some ((pyn σ s).1, b1) := s1'
    have q3 : f_X12_must (sai b1 115 t (pyn σ s).1) N 100 1 = some h2 := r2
    unfold f_X12_readsPay f_X12_readsPay_b35
    rw [if_pos H.1, q1, obs, rg15 H1, obs, q2, obs]
    show (xis b1 115 (nI t) (pyn σ s).1).bind _ = _
    rw [w1.1, obs, q3, obs, RS.gi H2', tS_70, obs]
    rfl
  have e15 : ∀ k j, ¬ (k = 15 ∧ j = t) → (s2 y 15 t (pyn σ s).1).2 k j = y.2 k j := fun k j e => by rw [s2_ite, if_neg e]
  have v15 : (s2 y 15 t (pyn σ s).1).2 15 t = (pyn σ s).1 := by rw [s2_ite, if_pos ⟨rfl, rfl⟩]
  have y1k : ∀ k, (s2 y 15 t (pyn σ s).1).1 k = y.1 k := fun _ => rfl
  generalize s2 y 15 t (pyn σ s).1 = yB at Y1 H2' e15 v15 y1k
  have fin : ∀ y', YP t 0 yB y' → YPB t y y' ∧ (y'.2 14 = y.2 14 ∧ y'.2 17 = y.2 17 ∧ y'.2 18 = y.2 18) := by
    intro y' P
    refine ⟨⟨fun k => (P.1 k).trans (y1k k), fun k j h1 h2 => (P.2 k j (by omega) (by omega)).trans (e15 k j (by omega))⟩, ?_, ?_, ?_⟩
    · funext j; exact (P.2 14 j (by omega) (by omega)).trans (e15 14 j (by omega))
    · funext j; exact (P.2 17 j (by omega) (by omega)).trans (e15 17 j (by omega))
    · funext j; exact (P.2 18 j (by omega) (by omega)).trans (e15 18 j (by omega))
  unfold gP
  by_cases q : (py3 σ s).2 = true
  · rw [if_pos q]
    rw [q, if_neg (show ¬ bI true = 0 by decide)] at pre
    obtain ⟨n2, rfl⟩ : ∃ n', N = n' + 1 := ⟨N - 1, by omega⟩
    obtain ⟨h3, r3, H3, F3⟩ := r_stop (N := n2 + 1) (m := n2) (x := nI 0) H2' ht
    exact ⟨h3, _, (py3 σ s).2, pre.trans r3, H3, G2.trans F3, (fin _ s19_yp).1, (fin _ s19_yp).2, fun z => (by cases z), fun _ => Or.inl q⟩
  · rw [if_neg q]
    have q' : (py3 σ s).2 = false := by
      rcases e : (py3 σ s).2
      · rfl
      · exact absurd e q
    rw [q', if_pos (show bI false = 0 by rfl)] at pre
    obtain ⟨h5, y5, f5, r5, H5, F5, P5, e5, a1', a2⟩ := r_payL (N := N) (t := t) X ht 3 0 N h2 yB (py3 σ s) (by omega) (by omega) H2' Y1 l2 (by omega)
    refine ⟨h5, y5, f5, pre.trans r5, H5, G2.trans F5, (fin _ P5).1, (fin _ P5).2, fun z => ⟨(a1' z).1, ?_, ?_, fun j hj => ?_⟩, a2⟩
    · rw [P5.2 15 t (by omega) (by omega)]; exact v15
    · rw [e5, Nat.zero_add]
    · have := (a1' z).2 j hj
      rwa [Nat.zero_add] at this
/-- a case that stood: its sign was one of the two -/
theorem gL_ok : ∀ (m : Nat) (s : Nat × Bool), (gL σ m s).2.1 = true → ∀ j, j < (gL σ m s).1 → (q8 σ (sq σ j s)).2.2 = false
  | 0, s, e, j, hj => by
    unfold gL at e hj
    by_cases q : (q8 σ s).2.2 = true
    · rw [if_pos q] at e; cases e
    · rw [if_neg q] at hj
      have : j = 0 := by have hj' : j < 1 := hj; omega
      subst this
      show (q8 σ s).2.2 = false
      rcases e : (q8 σ s).2.2
      · rfl
      · exact absurd e q
  | m + 1, s, e, j, hj => by
    unfold gL at e hj
    by_cases q : (q8 σ s).2.2 = true
    · rw [if_pos q] at e; cases e
    · have q' : (q8 σ s).2.2 = false := by
        rcases e : (q8 σ s).2.2
        · rfl
        · exact absurd e q
      rw [if_neg q] at e hj
      by_cases q2 : cn σ 63 ≤ (q8 σ s).2.1
      · rw [if_pos q2] at hj
        have : j = 0 := by have hj' : j < 1 := hj; omega
        subst this
        exact q'
      · rw [if_neg q2] at e hj
        by_cases q3 : (nxt σ s).2 = true
        · rw [if_pos q3] at e; cases e
        · rw [if_neg q3] at e hj
          rcases j with _ | j
          · exact q'
          · exact gL_ok m (nxt σ s) e j (by have hj' : j + 1 < (gL σ m (nxt σ s)).1 + 1 := hj; omega)
theorem sign_ok (e : (q8 σ s).2.2 = false) : bI (eC σ (q4 σ s).2) = 1 - bI (decide (tb σ (e5 σ (q4 σ s).2).1 = nI 60)) := by
  have h6 : (e6 σ (q4 σ s).2).2 = false := by
    rcases z : (e6 σ (q4 σ s).2).2
    · rfl
    · exfalso
      have h7 : e7 σ (q4 σ s).2 = e6 σ (q4 σ s).2 := wdS_t z
      unfold q8 e8 at e
      rw [h7, nmS_t z] at e
      rw [show (e6 σ (q4 σ s).2).2 = false from e] at z
      cases z
  have e14 : SBYT.getD 14 [] = [nI 60] := by decide
  have e13 : SBYT.getD 13 [] = [nI 62] := by decide
  rcases q : eC σ (q4 σ s).2
  · have h6' := h6
    unfold e6 at h6'
    rw [q, if_neg (by decide), e14, w1_eq] at h6'
    by_cases z : (e5 σ (q4 σ s).2).2 = true
    · rw [if_pos z, z] at h6'; cases h6'
    · rw [if_neg z] at h6'
      have : tb σ (e5 σ (q4 σ s).2).1 = nI 60 := by
        have z2 : decide (¬ tb σ (e5 σ (q4 σ s).2).1 = nI 60) = false := h6'
        exact Decidable.of_not_not (of_decide_eq_false z2)
      rw [decide_eq_true this]; rfl
  · have q2 : tb σ (e5 σ (q4 σ s).2).1 = nI 62 := of_decide_eq_true q
    have : ¬ tb σ (e5 σ (q4 σ s).2).1 = nI 60 := by rw [q2, nI_eq (by decide) (by decide)]; omega
    rw [decide_eq_false this]; rfl
def okS (A B : Nat → Int32) : Nat → Nat → Bool
  | 0, _ => true
  | m + 1, i => !decide (B i < A i) && (!decide (11 < B i) && okS A B m (i + 1))
theorem lt12' {x : Int32} : (x < 12) ↔ ¬ (11 < x) := by
  rw [Int32.lt_iff_toInt_lt, Int32.lt_iff_toInt_lt, show (12 : Int32).toInt = 12 by decide, show (11 : Int32).toInt = 11 by decide]
  omega
theorem c_sound {A B : Nat → Int32} {k : Nat} {v0 v2 : Int32} (K : BK h b) (hk : k ≤ 4) (h5 : fi h b 5 = nI k) (hA : ∀ i, i < k → ai h (b + 2) i = A i) (hB : ∀ i, i < k → ai h (b + 3) i = B i) (h0 : fi h b 0 = v0) (h2 : fi h b 2 = v2) : ∀ (m i n : Nat), i + m = k → m < n → f_X10_isSound_b2 h N n b (nI i) = some (if okS A B m i = true ∧ (v0 = 0 ∨ ¬ v2 ≤ 0) then 1 else 0) := by
  have kb := K.1.1
  have g7 : xgr h b 11 7 = some (b + 2) := K.gr (d := 1) (by omega)
  have g8 : xgr h b 11 8 = some (b + 3) := K.gr (d := 2) (by omega)
  intro m
  induction m with
  | zero =>
    intro i n hi hn
    obtain ⟨n, rfl⟩ : ∃ n', n = n' + 1 := ⟨n - 1, by omega⟩
    show f_X10_isSound_b2_body h N (f_X10_isSound_b2 h N n) b (nI i) = _
    unfold f_X10_isSound_b2_body f_X10_isSound_b58 okS
    rw [xgi_ok kb, h5, obs, if_pos (by rw [show i = k by omega]; exact Int32.le_refl _), xgi_ok kb, h0, obs, xgi_ok kb, h2, obs]
    by_cases q0 : v0 = 0
    · rw [if_pos q0, if_pos ⟨rfl, Or.inl q0⟩]
    · rw [if_neg q0]
      by_cases q2 : v2 ≤ 0
      · rw [if_pos q2, if_neg (fun z => z.2.elim q0 (fun z => z q2))]
      · rw [if_neg q2, if_pos ⟨rfl, Or.inr q2⟩]
  | succ m ih =>
    intro i n hi hn
    obtain ⟨n, rfl⟩ : ∃ n', n = n' + 1 := ⟨n - 1, by omega⟩
    have xA : xia h (b + 2) (nI i) = some (A i) := xia_of K.1.2.2.1 (show ln h (b + 2) = 4 from (K.2.1 1 (by omega)).1) (by omega) (by decide) (hA i (by omega))
    have xB : xia h (b + 3) (nI i) = some (B i) := xia_of K.1.2.2.2.1 (show ln h (b + 3) = 4 from (K.2.1 2 (by omega)).1) (by omega) (by decide) (hB i (by omega))
    show f_X10_isSound_b2_body h N (f_X10_isSound_b2 h N n) b (nI i) = _
    unfold f_X10_isSound_b2_body okS
    rw [xgi_ok kb, h5, obs, if_neg (by rw [nI_leI (by omega) (by omega)]; omega), g7, obs, xA, obs, g8, obs, xB, obs, obs, xB, obs]
    by_cases q1 : B i < A i
    · rw [if_pos q1, if_neg (by simp [q1])]
    · rw [if_neg q1]
      by_cases q2 : 11 < B i
      · rw [if_neg (fun z => (lt12'.mp z) q2), if_neg (by simp [q2])]
      · rw [if_pos (lt12'.mpr q2), nI_1, ih (i + 1) n (by omega) (by omega)]
        simp [q1, q2]
theorem r_goodL {A B : Nat → Int32} {k : Nat} (H : RS h y) (hk : k ≤ 4) (ht : t < 8) (h19 : y.2 19 t = nI k) (hA : ∀ i, i < k → y.2 21 (4 * t + i) = A i) (hB : ∀ i, i < k → y.2 22 (4 * t + i) = B i) : ∀ (m i n : Nat) (f : Bool), i + m = k → m < n → f_X12_isGood_b28 h N n 100 (nI t) (bI f) (nI (4 * t + i)) = some (if f = true ∧ okS A B m i = true then 1 else 0) := by
  intro m
  induction m with
  | zero =>
    intro i n f hi hn
    obtain ⟨n, rfl⟩ : ∃ n', n = n' + 1 := ⟨n - 1, by omega⟩
    have e4 : (4 : Int32) * nI t + nI k = nI (4 * t + k) := by rw [show (4 : Int32) = nI 4 by decide, nI_mul, nI_add]
    show f_X12_isGood_b28_body h N (f_X12_isGood_b28 h N n) 100 (nI t) (bI f) (nI (4 * t + i)) = _
    unfold f_X12_isGood_b28_body okS
    rw [rg19 H, obs, ra19 H ht, obs, h19, e4, if_pos (by rw [show i = k by omega]; exact Int32.le_refl _), if_pos (by cases f <;> decide)]
    cases f <;> rfl
  | succ m ih =>
    intro i n f hi hn
    obtain ⟨n, rfl⟩ : ∃ n', n = n' + 1 := ⟨n - 1, by omega⟩
    have e4 : (4 : Int32) * nI t + nI k = nI (4 * t + k) := by rw [show (4 : Int32) = nI 4 by decide, nI_mul, nI_add]
    have i0 := ih (i + 1) n false (by omega) (by omega)
    have i1 := ih (i + 1) n true (by omega) (by omega)
    rw [if_neg (by simp)] at i0
    have i0' : f_X12_isGood_b28 h N n 100 (nI t) 0 (nI (4 * t + (i + 1))) = some 0 := i0
    have i1' : f_X12_isGood_b28 h N n 100 (nI t) 1 (nI (4 * t + (i + 1))) = _ := i1
    show f_X12_isGood_b28_body h N (f_X12_isGood_b28 h N n) 100 (nI t) (bI f) (nI (4 * t + i)) = _
    unfold f_X12_isGood_b28_body f_X12_isGood_b76 f_X12_isGood_b77 okS
    rw [rg19 H, obs, ra19 H ht, obs, h19, e4, if_neg (by rw [nI_leI (by omega) (by omega)]; omega), nI_1, show 4 * t + i + 1 = 4 * t + (i + 1) by omega, i0', i1']
    cases f
    · rw [if_pos (show bI false = 0 by rfl), if_neg (by simp)]
    · rw [if_neg (show ¬ bI true = 0 by decide), rg21 H, obs, ra21 H (by omega), obs, hA i (by omega), rg22 H, obs, ra22 H (by omega), obs, hB i (by omega), obs, ra22 H (by omega), obs, hB i (by omega)]
      by_cases q1 : B i < A i
      · rw [if_pos q1, if_neg (by simp [q1])]
      · rw [if_neg q1]
        by_cases q2 : 11 < B i
        · rw [if_pos q2, if_neg (by simp [q2])]
        · rw [if_neg q2]
          simp [q1, q2]
end
