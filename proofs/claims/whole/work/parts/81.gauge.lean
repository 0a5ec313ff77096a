/-! ===== public: gauge, site ===== -/
section
variable {L N : Nat} {xs : Nat → Int32} {h h' : AH} {σ σ' : SG} {tr : Nat → Nat} {u n : Nat}
theorem CR.eq (R : CR h σ) (q : ∀ r, 300 ≤ r → r < 414 → EQR h h' r) (hF : cn σ 26 ≤ 24) (c : cn σ' 26 = cn σ 26) (g29 : σ'.2 29 = σ.2 29) (g30 : σ'.2 30 = σ.2 30) : CR h' σ' := by
  refine ⟨fun j hj => ?_, fun j h1 h2 => ?_⟩
  · rw [c] at hj
    have b0 := q (300 + j) (by omega) (by omega)
    have b3 := q (330 + j) (by omega) (by omega)
    have b6 := q (360 + j) (by omega) (by omega)
    have b9 := q (390 + j) (by omega) (by omega)
    rw [b6.1, b6.2.2.2.1, b9.2.1, b3.2.1, b0.2.2.2.1, b0.2.2.1, b6.2.2.1, g29, g30]
    exact R.1 j hj
  · rw [c] at h1
    rw [(q (360 + j) (by omega) (by omega)).1]
    exact R.2 j h1 h2
theorem AC.eq (A : AC h σ) (q1 : EQR h h' 1) (q : ∀ r, 360 ≤ r → r < 414 → EQR h h' r) (hF : cn σ 26 ≤ 24) (c : cn σ 26 ≤ cn σ' 26) (g64 : σ'.1 64 = σ.1 64) (g65 : σ'.2 65 = σ.2 65) : AC h' σ' := by
  unfold AC
  rw [q1.2.2.2.1, g64, g65]
  rcases A with z | ⟨j, z1, z2, z3, z4⟩
  · exact Or.inl z
  · refine Or.inr ⟨j, by omega, z2, by rw [(q (360 + j) (by omega) (by omega)).2.2.1]; exact z3, fun i hi hr => ?_⟩
    rw [(q (390 + j) (by omega) (by omega)).2.2.2.2.1]
    exact z4 i hi hr
theorem RS.eq (H : RS h σ) (q : ∀ r, 100 ≤ r → r < 177 → EQR h h' r) : RS h' σ := by
  obtain ⟨h1, h2, h3, h4⟩ := H
  refine ⟨by rw [(q 100 (by omega) (by omega)).1]; exact h1, fun k hk hl => ?_, by rw [(q 100 (by omega) (by omega)).2.2.1]; exact h3, fun k hk => by rw [(q (100 + k) (by omega) (by omega)).2.2.2.2.1]; exact h4 k hk⟩
  rw [(q 100 (by omega) (by omega)).2.2.2.1, (q (100 + k) (by omega) (by omega)).1, (q (100 + k) (by omega) (by omega)).2.1]
  exact h2 k hk hl
theorem x3_init {q : Nat} {x y s : Int32} (e : kd h q = 5) : f_X3_init h q x y s = some (sfi (sfi (sfi (sfi h q 3 16) q 0 x) q 1 y) q 2 s) := by
  unfold f_X3_init
  rw [if_pos e, xpi_ok e, obs, xpi_ok (h := sfi h q 3 16) e, obs, xpi_ok (h := sfi (sfi h q 3 16) q 0 x) e, obs, xpi_ok (h := sfi (sfi (sfi h q 3 16) q 0 x) q 1 y) e, obs]

def gaugeH (h : AH) (σ : SG) (x y s : Int32) : AH := sfi (sfi (sfi (sfi (mkc h (200 + cn σ 0) 5 0) (200 + cn σ 0) 3 16) (200 + cn σ 0) 0 x) (200 + cn σ 0) 1 y) (200 + cn σ 0) 2 s
def gaugeS (σ : SG) (x y s : Int32) : SG := s1 (s2 (s2 (s2 (s2 σ 1 (cn σ 0) x) 2 (cn σ 0) y) 3 (cn σ 0) s) 4 (cn σ 0) 16) 0 (nI (cn σ 0 + 1))
theorem gaugeS_row {x y s : Int32} {k j : Nat} (e : (k ≠ 1 ∧ k ≠ 2 ∧ k ≠ 3 ∧ k ≠ 4) ∨ j ≠ cn σ 0) : (gaugeS σ x y s).2 k j = σ.2 k j := by
  show (s2 (s2 (s2 (s2 σ 1 (cn σ 0) x) 2 (cn σ 0) y) 3 (cn σ 0) s) 4 (cn σ 0) 16).2 k j = σ.2 k j
  rw [s2_ite, if_neg (by omega), s2_ite, if_neg (by omega), s2_ite, if_neg (by omega), s2_ite, if_neg (by omega)]
theorem gaugeS_r {x y s : Int32} {k : Nat} (e : k ≠ 1 ∧ k ≠ 2 ∧ k ≠ 3 ∧ k ≠ 4) : (gaugeS σ x y s).2 k = σ.2 k := by
  funext j
  exact gaugeS_row (Or.inl e)
theorem gaugeS_c {x y s : Int32} (W : CT σ) : cn (gaugeS σ x y s) 0 = cn σ 0 + 1 := by
  have := W.g
  exact cn_eq (show (s1 (s2 (s2 (s2 (s2 σ 1 (cn σ 0) x) 2 (cn σ 0) y) 3 (cn σ 0) s) 4 (cn σ 0) 16) 0 (nI (cn σ 0 + 1))).1 0 = nI (cn σ 0 + 1) from s1_eq) (by omega)
theorem gaugeS_1 {x y s : Int32} {k : Nat} (e : k ≠ 0) : (gaugeS σ x y s).1 k = σ.1 k := s1_ne e
theorem gaugeS_ct {x y s : Int32} {k : Nat} (e : k ≠ 0) : ct (gaugeS σ x y s) k = ct σ k := by
  unfold ct cn
  rw [gaugeS_1 e]
theorem gaugeH_q {x y s : Int32} {r : Nat} (e : r ≠ 200 + cn σ 0) : EQR h (gaugeH h σ x y s) r := ((((EQR.mkc e).trans (EQR.sfi e)).trans (EQR.sfi e)).trans (EQR.sfi e)).trans (EQR.sfi e)
theorem gaugeH_k {x y s : Int32} : kd (gaugeH h σ x y s) (200 + cn σ 0) = 5 := (show kd (mkc h (200 + cn σ 0) 5 0) (200 + cn σ 0) = 5 from kd_mkc)
theorem gaugeH_f0 {x y s : Int32} : fi (gaugeH h σ x y s) (200 + cn σ 0) 0 = x := by
  unfold gaugeH
  simp [fi_sfi]
theorem gaugeH_f1 {x y s : Int32} : fi (gaugeH h σ x y s) (200 + cn σ 0) 1 = y := by
  unfold gaugeH
  simp [fi_sfi]
theorem gaugeH_f2 {x y s : Int32} : fi (gaugeH h σ x y s) (200 + cn σ 0) 2 = s := by
  unfold gaugeH
  simp [fi_sfi]
theorem gaugeH_f3 {x y s : Int32} : fi (gaugeH h σ x y s) (200 + cn σ 0) 3 = 16 := by
  unfold gaugeH
  simp [fi_sfi]
theorem gauge_cs {x y s : Int32} {h3 : AH} (C : CS h σ tr u) (W : WV σ) (hn : cn σ 0 < 8) (hu : u ≤ 900) (Z : LZ h3 10 (cn σ 0 + 1) (fun j => 200 + j)) (hz : fi h3 10 2 = nI (cn σ 0 + 1)) (hk : kd h3 10 = 1) (Q3 : ∀ r, r ≠ 10 → (r < 400 + 8 * 10 ∨ 408 + 8 * 10 ≤ r) → EQR (gaugeH h σ x y s) h3 r) : CS h3 (gaugeS σ x y s) tr u := by
  have hG := W.1.g
  have hF := W.1.f
  have hS := W.1.s
  have Q : ∀ r, r ≠ 10 → r ≠ 200 + cn σ 0 → (r < 400 + 8 * 10 ∨ 408 + 8 * 10 ≤ r) → EQR h h3 r := fun r h1 h2 h4 => (gaugeH_q h2).trans (Q3 r h1 h4)
  have c' := gaugeS_c (σ := σ) (x := x) (y := y) (s := s) W.1
  have c26 : cn (gaugeS σ x y s) 26 = cn σ 26 := by unfold cn; rw [gaugeS_1 (by decide)]
  have cot : cn (gaugeS σ x y s) 46 = cn σ 46 := by unfold cn; rw [gaugeS_1 (by decide)]
  have qn : EQR (gaugeH h σ x y s) h3 (200 + cn σ 0) := Q3 _ (by omega) (by omega)
  refine C.of3 (fun r hr => Q r (by omega) (by omega) (by omega)) (fun r h1 h2 => ?_) ?_ ?_ ?_ ?_ (gaugeS_1 (by decide)) (gaugeS_r (by decide)) (gaugeS_r (by decide)) (gaugeS_r (by decide)) (gaugeS_r (by decide)) ?_ ?_ ?_ ?_
  · have : r = 10 ∨ r = 11 ∨ r = 12 ∨ r = 13 := by omega
    rcases this with rfl | rfl | rfl | rfl
    · exact hk
    · rw [(Q 11 (by omega) (by omega) (by omega)).1]; exact kk11 C
    · rw [(Q 12 (by omega) (by omega) (by omega)).1]; exact kk12 C
    · rw [(Q 13 (by omega) (by omega) (by omega)).1]; exact kk13 C
  · have tI : ∀ q ∈ dI, (q.2.2 ≠ 0 ∧ q.1 ≠ 10 ∧ q.1 < 100) ∨ q = (10, 2, 0) := by decide
    have tC : ∀ q ∈ dC, 14 ≤ q.1 ∧ q.1 < 100 := by decide
    have tF : ∀ q ∈ dF, (q.1 = 200 ∧ q.2.2.2.1 = 0) ∨ (((q.1 + q.2.2.2.2 ≤ 200 ∧ 14 ≤ q.1) ∨ 200 + 8 ≤ q.1) ∧ q.1 + q.2.2.2.2 ≤ 400) := by decide
    have tK : ∀ q ∈ dF, q.2.2.2.1 = 0 ∨ (q.2.2.1 ≠ 1 ∧ q.2.2.1 ≠ 2 ∧ q.2.2.1 ≠ 3 ∧ q.2.2.1 ≠ 4) := by decide
    have tN : ∀ q ∈ dF, q.2.2.2.1 = 0 → q = (200, 0, 1, 0, 8) ∨ q = (200, 1, 2, 0, 8) ∨ q = (200, 2, 3, 0, 8) ∨ q = (200, 3, 4, 0, 8) := by decide
    have tA : ∀ q ∈ dA, (14 ≤ q.1 ∧ q.1 < 100) ∧ (q.2.2.2.1 ≠ 1 ∧ q.2.2.2.1 ≠ 2 ∧ q.2.2.2.1 ≠ 3 ∧ q.2.2.2.1 ≠ 4) := by decide
    have tB : ∀ q ∈ dB, ((q.1 + q.2.2.2.2 ≤ 200 ∧ 14 ≤ q.1) ∨ 200 + 8 ≤ q.1) ∧ q.1 + q.2.2.2.2 ≤ 400 := by decide
    have tB2 : ∀ q ∈ dB, (q.2.2.1 ≠ 1 ∧ q.2.2.1 ≠ 2 ∧ q.2.2.1 ≠ 3 ∧ q.2.2.1 ≠ 4) ∧ q.2.2.2.1 ≠ 0 := by decide
    refine C.d.nw (c := 0) (m := cn σ 0) rfl c' (fun d h1 _ => gaugeS_ct h1) (fun q hq => ?_) (fun q hq => ?_) (fun q hq j hj => ⟨?_, ?_⟩) (fun q hq e => ?_) (fun q hq => ⟨?_, ?_⟩) (fun q hq j hj => ?_) (fun q hq => ?_) (fun q hq e => absurd e (tB2 q hq).2)
    · rcases tI q hq with ⟨z1, z2, z3⟩ | z
      · rw [(Q q.1 z2 (by omega) (by omega)).2.2.1, gaugeS_1 z1]; exact C.d.1 q hq
      · rw [z]
        show fi h3 10 2 = (gaugeS σ x y s).1 0
        rw [hz]
        exact (show (s1 (s2 (s2 (s2 (s2 σ 1 (cn σ 0) x) 2 (cn σ 0) y) 3 (cn σ 0) s) 4 (cn σ 0) 16) 0 (nI (cn σ 0 + 1))).1 0 = nI (cn σ 0 + 1) from s1_eq).symm
    · have := tC q hq
      exact (Q q.1 (by omega) (by omega) (by omega)).2.2.1
    · have hm := Nat.lt_of_lt_of_le hj (W.1.F q hq)
      have hc : q.2.2.2.1 = 0 → j < cn σ 0 := fun e => by rw [e] at hj; exact hj
      have := tF q hq
      exact (Q (q.1 + j) (by omega) (by omega) (by omega)).2.2.1
    · have hc : q.2.2.2.1 = 0 → j < cn σ 0 := fun e => by rw [e] at hj; exact hj
      have := tK q hq
      exact gaugeS_row (by omega)
    · rcases tN q hq e with rfl | rfl | rfl | rfl
      · show fi h3 (200 + cn σ 0) 0 = (gaugeS σ x y s).2 1 (cn σ 0)
        rw [qn.2.2.1, gaugeH_f0]
        unfold gaugeS
        simp [s1, s2_ite]
      · show fi h3 (200 + cn σ 0) 1 = (gaugeS σ x y s).2 2 (cn σ 0)
        rw [qn.2.2.1, gaugeH_f1]
        unfold gaugeS
        simp [s1, s2_ite]
      · show fi h3 (200 + cn σ 0) 2 = (gaugeS σ x y s).2 3 (cn σ 0)
        rw [qn.2.2.1, gaugeH_f2]
        unfold gaugeS
        simp [s1, s2_ite]
      · show fi h3 (200 + cn σ 0) 3 = (gaugeS σ x y s).2 4 (cn σ 0)
        rw [qn.2.2.1, gaugeH_f3]
        unfold gaugeS
        simp [s1, s2_ite]
    · have := (tA q hq).1
      exact (Q q.1 (by omega) (by omega) (by omega)).2.2.2.2.1
    · exact gaugeS_r (tA q hq).2
    · have hm := Nat.lt_of_lt_of_le hj (W.1.B q hq)
      have := tB q hq
      exact (Q (q.1 + j) (by omega) (by omega) (by omega)).2.2.2.2.1
    · exact gaugeS_r (tB2 q hq).1
  · intro q hq
    have tO : ∀ q ∈ oB, q = (200, 0, 5, 8) ∨ (q.2.1 ≠ 0 ∧ ((q.1 + q.2.2.2 ≤ 200 ∧ 14 ≤ q.1) ∨ 200 + 8 ≤ q.1) ∧ q.1 + q.2.2.2 ≤ 414 ∧ q.2.1 < 100) := by decide
    have tO2 : ∀ q ∈ oB, ct σ q.2.1 ≤ q.2.2.2 := by
      have t : ∀ q ∈ oB, (q.2.1 = 0 ∧ q.2.2.2 = 8) ∨ (q.2.1 = 26 ∧ q.2.2.2 = 24) ∨ (q.2.1 = 46 ∧ q.2.2.2 = 8) := by decide
      intro q hq
      rcases t q hq with ⟨e1, e2⟩ | ⟨e1, e2⟩ | ⟨e1, e2⟩
      · rw [e1, e2]; exact hG.2
      · rw [e1, e2]; exact hF.2
      · rw [e1, e2]; exact hS.2
    have O := C.2.2.2.1 q hq
    rcases tO q hq with rfl | ⟨z1, z2, z3, z4⟩
    · have cs : ct (gaugeS σ x y s) 0 = cn σ 0 + 1 := c'
      refine ⟨fun j hj => ?_, fun j h1 h2 => ?_⟩
      · rw [cs] at hj
        show kd h3 (200 + j) = 5
        by_cases ej : j = cn σ 0
        · rw [ej, qn.1]; exact gaugeH_k
        · rw [(Q (200 + j) (by omega) (by omega) (by omega)).1]; exact O.1 j (show j < cn σ 0 by omega)
      · rw [cs] at h1
        show kd h3 (200 + j) = 0
        have h2' : j < 8 := h2
        rw [(Q (200 + j) (by omega) (by omega) (by omega)).1]
        exact O.2 j (show cn σ 0 ≤ j by omega) h2
    · rw [gaugeS_ct z1]
      have hm := tO2 q hq
      refine ⟨fun j hj => ?_, fun j h1 h2 => ?_⟩
      · rw [(Q (q.1 + j) (by omega) (by omega) (by omega)).1]; exact O.1 j hj
      · rw [(Q (q.1 + j) (by omega) (by omega) (by omega)).1]; exact O.2 j h1 h2
  · exact C.2.2.2.2.1.eq (fun r h1 h2 => Q r (by omega) (by omega) (by omega)) hF.2 c26 (gaugeS_r (by decide)) (gaugeS_r (by decide))
  · exact C.2.2.2.2.2.1.eq (Q 1 (by omega) (by omega) (by omega)) (fun r h1 h2 => Q r (by omega) (by omega) (by omega)) hF.2 (by rw [c26]; exact Nat.le_refl _) (gaugeS_1 (by decide)) (gaugeS_r (by decide))
  · exact C.2.2.2.2.2.2.2.2.1.eq (Q 11 (by omega) (by omega) (by omega)) (fun i hi => Q _ (by omega) (by omega) (by omega)) (fun r h1 h2 => Q r (by omega) (by omega) (by omega)) hu (gaugeS_1 (by decide)) (fun k h1 h2 => gaugeS_r (by omega))
  · rw [c']; exact Z
  · rw [c26]; exact C.2.2.2.2.2.2.2.2.2.2.1.eq (Q 12 (by omega) (by omega) (by omega)) (fun i hi => Q _ (by omega) (by omega) (by omega))
  · rw [cot]; exact C.2.2.2.2.2.2.2.2.2.2.2.eq (Q 13 (by omega) (by omega) (by omega)) (fun i hi => Q _ (by omega) (by omega) (by omega))
theorem gauge_wv {x y s : Int32} (W : WV σ) (hn : cn σ 0 < 8) (b1 : bd x 100) (b2 : bd y 100) (b3 : bd s 16) (b4 : bd 16 17) : WV (gaugeS σ x y s) := by
  have W4 : WR (s2 (s2 (s2 (s2 σ 1 (cn σ 0) x) 2 (cn σ 0) y) 3 (cn σ 0) s) 4 (cn σ 0) 16) := WR.w2_4 (σ := (s2 ((s2 ((s2 σ 1 (cn σ 0) x)) 2 (cn σ 0) y)) 3 (cn σ 0) s)) (WR.w2_3 (σ := (s2 ((s2 σ 1 (cn σ 0) x)) 2 (cn σ 0) y)) (WR.w2_2 (σ := (s2 σ 1 (cn σ 0) x)) (WR.w2_1 (σ := σ) (W.2.1) b1) b2) b3) b4
  have v : ∀ q ∈ wR, q.2.1 = 0 → bd ((s2 (s2 (s2 (s2 σ 1 (cn σ 0) x) 2 (cn σ 0) y) 3 (cn σ 0) s) 4 (cn σ 0) 16).2 q.1 (cn σ 0)) (ct (s2 (s2 (s2 (s2 σ 1 (cn σ 0) x) 2 (cn σ 0) y) 3 (cn σ 0) s) 4 (cn σ 0) 16) q.2.2) := by
    intro q hq e
    have t : ∀ q ∈ wR, q.2.1 = 0 → (q.1 = 1 ∧ q.2.2 = 200) ∨ (q.1 = 2 ∧ q.2.2 = 200) ∨ (q.1 = 3 ∧ q.2.2 = 116) ∨ (q.1 = 4 ∧ q.2.2 = 117) := by decide
    rcases t q hq e with ⟨e1, e2⟩ | ⟨e1, e2⟩ | ⟨e1, e2⟩ | ⟨e1, e2⟩
    · rw [e1, e2, show (s2 (s2 (s2 (s2 σ 1 (cn σ 0) x) 2 (cn σ 0) y) 3 (cn σ 0) s) 4 (cn σ 0) 16).2 1 (cn σ 0) = x by simp [s2_ite]]; exact b1
    · rw [e1, e2, show (s2 (s2 (s2 (s2 σ 1 (cn σ 0) x) 2 (cn σ 0) y) 3 (cn σ 0) s) 4 (cn σ 0) 16).2 2 (cn σ 0) = y by simp [s2_ite]]; exact b2
    · rw [e1, e2, show (s2 (s2 (s2 (s2 σ 1 (cn σ 0) x) 2 (cn σ 0) y) 3 (cn σ 0) s) 4 (cn σ 0) 16).2 3 (cn σ 0) = s by simp [s2_ite]]; exact b3
    · rw [e1, e2, show (s2 (s2 (s2 (s2 σ 1 (cn σ 0) x) 2 (cn σ 0) y) 3 (cn σ 0) s) 4 (cn σ 0) 16).2 4 (cn σ 0) = 16 by simp [s2_ite]]; exact b4
  refine W.of2 (CT.cc (σ := s2 (s2 (s2 (s2 σ 1 (cn σ 0) x) 2 (cn σ 0) y) 3 (cn σ 0) s) 4 (cn σ 0) 16) W.1 (fun q hq e => ?_) (by omega)) (fun k hk => ?_) (fun k hk => ?_) (WR.cc W4 rfl (show cn σ 0 + 1 < 2 ^ 31 by omega) (by decide) (by decide) v) ?_
  · have t : ∀ q ∈ cmax, q.1 = 0 → q.2 = 8 := by decide
    rw [t q hq e]; omega
  · have t : ∀ k ∈ vs3, k ≠ 0 := by decide
    exact s1_ne (t k hk)
  · have t : ∀ k ∈ vs2, k ≠ 1 ∧ k ≠ 2 ∧ k ≠ 3 ∧ k ≠ 4 := by decide
    exact gaugeS_r (t k hk)
  · unfold WL
    rw [show (gaugeS σ x y s).2 5 = σ.2 5 from gaugeS_r (by decide)]
    exact W.2.2.1
theorem pub_gauge {a b c : Int32} (I : INV L xs h σ tr u n) (hn5 : n ≤ 600) : ∃ v h1 h2 σ' tr' u', f_X11_gauge h 1 a b c = some (v, h1) ∧ f_X12_gauge h1 100 a b c = some (v, h2) ∧ (kd h1 9000 = 30 ∧ ln h1 9000 = L ∧ ai h1 9000 = xs) ∧ INV L xs h2 σ' tr' u' (n + 1) := by
  obtain ⟨C, H, W, X, S, U⟩ := id I
  have hC := W.1.g
  by_cases hp : ok a 100 = true ∧ ok b 100 = true
  · obtain ⟨oa, ob⟩ := hp
    obtain ⟨x, hx, rfl⟩ := ok_of (by decide) oa
    obtain ⟨y, hy, rfl⟩ := ok_of (by decide) ob
    rcases okC c (n := 16) (by decide) with oc | ⟨oc, s, hs, rfl⟩
    · exact ⟨-1, h, h, σ, tr, u, by simp only [f_X11_gauge, obs, b10, b01, bm, if_true_, if_false_, eq_self, not_true_eq_false, not_false_eq_true, true_or, or_true, or_false, false_or, and_true, true_and, and_false, false_and, or_self, and_self, Bool.false_eq_true, ite_self, n25, n20, n24, n100, kk1 C, RS.kk H, c_isGauge C W.1, c_isTerm C W.1, c_isFarm C W.1, c_isSeason, c_isPlace, r_isGauge H W.1, r_isTerm H W.1, r_isFarm H W.1, r_isSeason, r_isWeek, r_isPlace, r_isSheet, ci1, ri1, ci2, ri2, ci3, ri3, ci4, ri4, ci5, ri5, ci11, ri11, ci16, ri16, ci98, ri98, ci99, ri99, ci198, ri198, ci9999, ri9999, oa, ob, oc], by simp only [f_X12_gauge, obs, b10, b01, bm, if_true_, if_false_, eq_self, not_true_eq_false, not_false_eq_true, true_or, or_true, or_false, false_or, and_true, true_and, and_false, false_and, or_self, and_self, Bool.false_eq_true, ite_self, n25, n20, n24, n100, kk1 C, RS.kk H, c_isGauge C W.1, c_isTerm C W.1, c_isFarm C W.1, c_isSeason, c_isPlace, r_isGauge H W.1, r_isTerm H W.1, r_isFarm H W.1, r_isSeason, r_isWeek, r_isPlace, r_isSheet, ci1, ri1, ci2, ri2, ci3, ri3, ci4, ri4, ci5, ri5, ci11, ri11, ci16, ri16, ci98, ri98, ci99, ri99, ci198, ri198, ci9999, ri9999, oa, ob, oc], S, I.up (by omega)⟩
    by_cases hf : cn σ 0 = 8
    · have e8 : σ.1 0 = 8 := by rw [hC.1, hf]; exact lt8.symm
      have e88 : ¬ ((8 : Int32) < 8) := by decide
      exact ⟨-4, h, h, σ, tr, u, by simp only [f_X11_gauge, obs, b10, b01, bm, if_true_, if_false_, eq_self, not_true_eq_false, not_false_eq_true, true_or, or_true, or_false, false_or, and_true, true_and, and_false, false_and, or_self, and_self, Bool.false_eq_true, ite_self, n25, n20, n24, n100, kk1 C, RS.kk H, c_isGauge C W.1, c_isTerm C W.1, c_isFarm C W.1, c_isSeason, c_isPlace, r_isGauge H W.1, r_isTerm H W.1, r_isFarm H W.1, r_isSeason, r_isWeek, r_isPlace, r_isSheet, ci1, ri1, ci2, ri2, ci3, ri3, ci4, ri4, ci5, ri5, ci11, ri11, ci16, ri16, ci98, ri98, ci99, ri99, ci198, ri198, ci9999, ri9999, oa, ob, oc, kr1_0 C, kz10 C, e8, e88], by simp only [f_X12_gauge, obs, b10, b01, bm, if_true_, if_false_, eq_self, not_true_eq_false, not_false_eq_true, true_or, or_true, or_false, false_or, and_true, true_and, and_false, false_and, or_self, and_self, Bool.false_eq_true, ite_self, n25, n20, n24, n100, kk1 C, RS.kk H, c_isGauge C W.1, c_isTerm C W.1, c_isFarm C W.1, c_isSeason, c_isPlace, r_isGauge H W.1, r_isTerm H W.1, r_isFarm H W.1, r_isSeason, r_isWeek, r_isPlace, r_isSheet, ci1, ri1, ci2, ri2, ci3, ri3, ci4, ri4, ci5, ri5, ci11, ri11, ci16, ri16, ci98, ri98, ci99, ri99, ci198, ri198, ci9999, ri9999, oa, ob, oc, RS.gi H, e8], S, I.up (by omega)⟩
    have hn8 : cn σ 0 < 8 := by omega
    have fl : fi h 10 2 = σ.1 0 := C.d.1 (10, 2, 0) (by decide)
    have fl2 : (fi h 10 2).toNatClampNeg = cn σ 0 := by rw [fl]; rfl
    have kz : kd h (200 + cn σ 0) = 0 := (C.2.2.2.1 (200, 0, 5, 8) (by decide)).2 (cn σ 0) (Nat.le_refl _) hn8
    have kin : ∀ j, j < cn σ 0 → kd h (200 + j) = 5 := fun j hj => C.oj (b := 200) (c := 0) (k := 5) (m := 8) (by decide) hj
    have Z0 : LZ h 10 (cn σ 0) (fun j => 200 + j) := C.2.2.2.2.2.2.2.2.2.1
    have Z2 : LZ (gaugeH h σ (nI x) (nI y) (nI s)) 10 (cn σ 0) (fun j => 200 + j) := Z0.eq (gaugeH_q (by omega)) (fun i hi => gaugeH_q (by omega))
    have kv := gaugeH_k (h := h) (σ := σ) (x := nI x) (y := nI y) (s := nI s)
    have ql := gaugeH_q (h := h) (σ := σ) (x := nI x) (y := nI y) (s := nI s) (r := 10) (by omega)
    have q92 := gaugeH_q (h := h) (σ := σ) (x := nI x) (y := nI y) (s := nI s) (r := 9200) (by omega)
    have q93 := gaugeH_q (h := h) (σ := σ) (x := nI x) (y := nI y) (s := nI s) (r := 9300) (by omega)
    obtain ⟨h3, e3, Z3, i3, k3, Q3⟩ := Z2.add (v := 200 + cn σ 0) (by omega) (by rw [ql.1]; exact kk10 C) (by rw [ql.2.2.1, fl]; exact hC.1) (by omega) (by rw [kv]; omega) rfl (fun j hj => by rw [(gaugeH_q (show 200 + j ≠ 200 + cn σ 0 by omega)).1, kin j hj]; omega) (by rw [q92.1, q92.2.1]; exact C.2.1.2.2.2.1) (by rw [q93.1]; exact C.2.1.2.2.2.2) (fun j hj => by omega)
    have C3 := gauge_cs C W hn8 (by omega) Z3 i3 k3 Q3
    have QQ : ∀ r, r ≠ 10 → r ≠ 200 + cn σ 0 → (r < 400 + 8 * 10 ∨ 408 + 8 * 10 ≤ r) → EQR h h3 r := fun r h1 h2 h4 => (gaugeH_q h2).trans (Q3 r h1 h4)
    have H3 : RS h3 σ := H.eq (fun r h1 h2 => QQ r (by omega) (by omega) (by omega))
    have S3 : kd h3 9000 = 30 ∧ ln h3 9000 = L ∧ ai h3 9000 = xs := by
      have q := QQ 9000 (by omega) (by omega) (by omega)
      rw [q.1, q.2.1, q.2.2.2.2.1]; exact S
    have w1 := rw1 H3 (n := cn σ 0) (x := nI x) hn8
    have w2 := rw2 w1.2 (n := cn σ 0) (x := nI y) hn8
    have w3 := rw3 w2.2 (n := cn σ 0) (x := nI s) hn8
    have w4 := rw4 w3.2 (n := cn σ 0) (x := 16) hn8
    have wl := w4.2.fi 0 (nI (cn σ 0 + 1))
    have cc1 : (s2 σ 1 (cn σ 0) (nI x)).1 0 = nI (cn σ 0) := hC.1
    have cc2 : (s2 (s2 σ 1 (cn σ 0) (nI x)) 2 (cn σ 0) (nI y)).1 0 = nI (cn σ 0) := hC.1
    have cc3 : (s2 (s2 (s2 σ 1 (cn σ 0) (nI x)) 2 (cn σ 0) (nI y)) 3 (cn σ 0) (nI s)).1 0 = nI (cn σ 0) := hC.1
    have cc4 : (s2 (s2 (s2 (s2 σ 1 (cn σ 0) (nI x)) 2 (cn σ 0) (nI y)) 3 (cn σ 0) (nI s)) 4 (cn σ 0) (16)).1 0 = nI (cn σ 0) := hC.1
    have hne : ¬ σ.1 0 = 8 := by rw [hC.1, lt8, nI_eq (by omega) (by decide)]; exact hf
    have hpl : ¬ (if ok (nI x) 100 = true ∧ ok (nI y) 100 = true then (1 : Int32) else 0) = 0 := by rw [if_pos ⟨oa, ob⟩]; decide
    have hsl : ¬ (if ok (nI s) 16 = true then (1 : Int32) else 0) = 0 := by rw [if_pos oc]; decide
    have hlt : σ.1 0 < 8 := by rw [hC.1, lt8]; exact nI_lt hn8 (by decide)
    have X' : WX (gaugeS σ (nI x) (nI y) (nI s)) (n + 1) := (X.up (by omega)).of (fun k hk => by
      have t : ∀ k ∈ xs1, k ≠ 0 := by decide
      exact gaugeS_1 (t k hk)) (fun k hk => by
      have t : ∀ k ∈ xs2, k ≠ 1 ∧ k ≠ 2 ∧ k ≠ 3 ∧ k ≠ 4 := by decide
      exact gaugeS_r (t k hk))
    have kv1 : kd (mkc h (200 + cn σ 0) 5 0) (200 + cn σ 0) = 5 := kd_mkc
    have g2 : gl h [1, 10] = some () := gl2 (by rw [kk1 C]; decide) (by rw [kk10 C]; decide)
    have g1 : gl (gaugeH h σ (nI x) (nI y) (nI s)) [1] = some () := gl1 (by rw [(gaugeH_q (show 1 ≠ 200 + cn σ 0 by omega)).1, kk1 C]; decide)
    have ini : f_X3_init (mkc h (200 + cn σ 0) 5 0) (200 + cn σ 0) (nI x) (nI y) (nI s) = some (gaugeH h σ (nI x) (nI y) (nI s)) := x3_init kv1
    have nw : xnw h (200 + cn σ 0) 4 = some (mkc h (200 + cn σ 0) 5 0) := xnw_ok kz
    have sz3 : f_Jx4a65c_size_8abf5 h3 10 = some (nI (cn σ 0 + 1)) := by
      unfold f_Jx4a65c_size_8abf5
      rw [if_pos k3, xgi_ok k3, i3]; rfl
    refine ⟨nI (cn σ 0), h3, _, gaugeS σ (nI x) (nI y) (nI s), tr, u, ?_, ?_, S3, I.st C3 (((((FRc.a (r := 101) (by omega) (by omega)).trans (FRc.a (r := 102) (by omega) (by omega))).trans (FRc.a (r := 103) (by omega) (by omega))).trans (FRc.a (r := 104) (by omega) (by omega))).trans FRc.f) wl (gauge_wv W hn8 ⟨x, hx, rfl⟩ ⟨y, hy, rfl⟩ ⟨s, hs, rfl⟩ ⟨16, by omega, by decide⟩) X' S3 (by omega)⟩
    · simp only [f_X11_gauge, obs, b10, b01, bm, if_true_, if_false_, eq_self, not_true_eq_false, not_false_eq_true, true_or, or_true, or_false, false_or, and_true, true_and, and_false, false_and, or_self, and_self, Bool.false_eq_true, ite_self, n25, n20, n24, n100, kk1 C, RS.kk H, c_isGauge C W.1, c_isTerm C W.1, c_isFarm C W.1, c_isSeason, c_isPlace, r_isGauge H W.1, r_isTerm H W.1, r_isFarm H W.1, r_isSeason, r_isWeek, r_isPlace, r_isSheet, ci1, ri1, ci2, ri2, ci3, ri3, ci4, ri4, ci5, ri5, ci11, ri11, ci16, ri16, ci98, ri98, ci99, ri99, ci198, ri198, ci9999, ri9999, oa, ob, oc, kr1_0 C, kz10 C, hlt, g2, fl2, nw, ini, g1, e3, kr1_0 C3, sz3, nI_pred]
    · unfold f_X12_gauge
      rw [if_pos H3.1, r_isPlace, obs, if_neg hpl, r_isSeason, obs, if_neg hsl, RS.gi H3, obs, if_neg hne, rg1 H3, obs, obs, hC.1, w1.1, obs, rg2 w1.2, obs, RS.gi w1.2, obs, cc1, w2.1, obs, rg3 w2.2, obs, RS.gi w2.2, obs, cc2, w3.1, obs, rg4 w3.2, obs, RS.gi w3.2, obs, cc3, w4.1, obs, RS.gi w4.2, obs, cc4, nI_1, w4.2.pi, obs, RS.gi wl, obs, s1_eq, nI_pred]
  · have hpn : ¬ (ok a 100 = true ∧ ok b 100 = true) := hp
    exact ⟨-2, h, h, σ, tr, u, by simp only [f_X11_gauge, obs, b10, b01, bm, if_true_, if_false_, eq_self, not_true_eq_false, not_false_eq_true, true_or, or_true, or_false, false_or, and_true, true_and, and_false, false_and, or_self, and_self, Bool.false_eq_true, ite_self, n25, n20, n24, n100, kk1 C, c_isPlace, hpn], by simp only [f_X12_gauge, obs, b10, b01, bm, if_true_, if_false_, eq_self, not_true_eq_false, not_false_eq_true, true_or, or_true, or_false, false_or, and_true, true_and, and_false, false_and, or_self, and_self, Bool.false_eq_true, ite_self, n25, n20, n24, n100, RS.kk H, r_isPlace, hpn], S, I.up (by omega)⟩
def siteH (h : AH) (σ : SG) (x y : Int32) : AH := sfi (sfi (sfi (sfi (mkc h (210 + cn σ 46) 5 0) (210 + cn σ 46) 3 16) (210 + cn σ 46) 0 x) (210 + cn σ 46) 1 y) (210 + cn σ 46) 2 0
def siteS (σ : SG) (x y : Int32) : SG := s1 (s2 (s2 σ 47 (cn σ 46) x) 48 (cn σ 46) y) 46 (nI (cn σ 46 + 1))
theorem siteS_row {x y : Int32} {k j : Nat} (e : (k ≠ 47 ∧ k ≠ 48) ∨ j ≠ cn σ 46) : (siteS σ x y).2 k j = σ.2 k j := by
  show (s2 (s2 σ 47 (cn σ 46) x) 48 (cn σ 46) y).2 k j = σ.2 k j
  rw [s2_ite, if_neg (by omega), s2_ite, if_neg (by omega)]
theorem siteS_r {x y : Int32} {k : Nat} (e : k ≠ 47 ∧ k ≠ 48) : (siteS σ x y).2 k = σ.2 k := by
  funext j
  exact siteS_row (Or.inl e)
theorem siteS_c {x y : Int32} (W : CT σ) : cn (siteS σ x y) 46 = cn σ 46 + 1 := by
  have := W.s
  exact cn_eq (show (s1 (s2 (s2 σ 47 (cn σ 46) x) 48 (cn σ 46) y) 46 (nI (cn σ 46 + 1))).1 46 = nI (cn σ 46 + 1) from s1_eq) (by omega)
theorem siteS_1 {x y : Int32} {k : Nat} (e : k ≠ 46) : (siteS σ x y).1 k = σ.1 k := s1_ne e
theorem siteS_ct {x y : Int32} {k : Nat} (e : k ≠ 46) : ct (siteS σ x y) k = ct σ k := by
  unfold ct cn
  rw [siteS_1 e]
theorem siteH_q {x y : Int32} {r : Nat} (e : r ≠ 210 + cn σ 46) : EQR h (siteH h σ x y) r := ((((EQR.mkc e).trans (EQR.sfi e)).trans (EQR.sfi e)).trans (EQR.sfi e)).trans (EQR.sfi e)
theorem siteH_k {x y : Int32} : kd (siteH h σ x y) (210 + cn σ 46) = 5 := (show kd (mkc h (210 + cn σ 46) 5 0) (210 + cn σ 46) = 5 from kd_mkc)
theorem siteH_f0 {x y : Int32} : fi (siteH h σ x y) (210 + cn σ 46) 0 = x := by
  unfold siteH
  simp [fi_sfi]
theorem siteH_f1 {x y : Int32} : fi (siteH h σ x y) (210 + cn σ 46) 1 = y := by
  unfold siteH
  simp [fi_sfi]
theorem site_cs {x y : Int32} {h3 : AH} (C : CS h σ tr u) (W : WV σ) (hn : cn σ 46 < 8) (hu : u ≤ 900) (Z : LZ h3 13 (cn σ 46 + 1) (fun j => 210 + j)) (hz : fi h3 13 2 = nI (cn σ 46 + 1)) (hk : kd h3 13 = 1) (Q3 : ∀ r, r ≠ 13 → (r < 400 + 8 * 13 ∨ 408 + 8 * 13 ≤ r) → EQR (siteH h σ x y) h3 r) : CS h3 (siteS σ x y) tr u := by
  have hG := W.1.g
  have hF := W.1.f
  have hS := W.1.s
  have Q : ∀ r, r ≠ 13 → r ≠ 210 + cn σ 46 → (r < 400 + 8 * 13 ∨ 408 + 8 * 13 ≤ r) → EQR h h3 r := fun r h1 h2 h4 => (siteH_q h2).trans (Q3 r h1 h4)
  have c' := siteS_c (σ := σ) (x := x) (y := y) W.1
  have c26 : cn (siteS σ x y) 26 = cn σ 26 := by unfold cn; rw [siteS_1 (by decide)]
  have cot : cn (siteS σ x y) 0 = cn σ 0 := by unfold cn; rw [siteS_1 (by decide)]
  have qn : EQR (siteH h σ x y) h3 (210 + cn σ 46) := Q3 _ (by omega) (by omega)
  refine C.of3 (fun r hr => Q r (by omega) (by omega) (by omega)) (fun r h1 h2 => ?_) ?_ ?_ ?_ ?_ (siteS_1 (by decide)) (siteS_r (by decide)) (siteS_r (by decide)) (siteS_r (by decide)) (siteS_r (by decide)) ?_ ?_ ?_ ?_
  · have : r = 10 ∨ r = 11 ∨ r = 12 ∨ r = 13 := by omega
    rcases this with rfl | rfl | rfl | rfl
    · rw [(Q 10 (by omega) (by omega) (by omega)).1]; exact kk10 C
    · rw [(Q 11 (by omega) (by omega) (by omega)).1]; exact kk11 C
    · rw [(Q 12 (by omega) (by omega) (by omega)).1]; exact kk12 C
    · exact hk
  · have tI : ∀ q ∈ dI, (q.2.2 ≠ 46 ∧ q.1 ≠ 13 ∧ q.1 < 100) ∨ q = (13, 2, 46) := by decide
    have tC : ∀ q ∈ dC, 14 ≤ q.1 ∧ q.1 < 100 := by decide
    have tF : ∀ q ∈ dF, (q.1 = 210 ∧ q.2.2.2.1 = 46) ∨ (((q.1 + q.2.2.2.2 ≤ 210 ∧ 14 ≤ q.1) ∨ 210 + 8 ≤ q.1) ∧ q.1 + q.2.2.2.2 ≤ 400) := by decide
    have tK : ∀ q ∈ dF, q.2.2.2.1 = 46 ∨ (q.2.2.1 ≠ 47 ∧ q.2.2.1 ≠ 48) := by decide
    have tN : ∀ q ∈ dF, q.2.2.2.1 = 46 → q = (210, 0, 47, 46, 8) ∨ q = (210, 1, 48, 46, 8) := by decide
    have tA : ∀ q ∈ dA, (14 ≤ q.1 ∧ q.1 < 100) ∧ (q.2.2.2.1 ≠ 47 ∧ q.2.2.2.1 ≠ 48) := by decide
    have tB : ∀ q ∈ dB, ((q.1 + q.2.2.2.2 ≤ 210 ∧ 14 ≤ q.1) ∨ 210 + 8 ≤ q.1) ∧ q.1 + q.2.2.2.2 ≤ 400 := by decide
    have tB2 : ∀ q ∈ dB, (q.2.2.1 ≠ 47 ∧ q.2.2.1 ≠ 48) ∧ q.2.2.2.1 ≠ 46 := by decide
    refine C.d.nw (c := 46) (m := cn σ 46) rfl c' (fun d h1 _ => siteS_ct h1) (fun q hq => ?_) (fun q hq => ?_) (fun q hq j hj => ⟨?_, ?_⟩) (fun q hq e => ?_) (fun q hq => ⟨?_, ?_⟩) (fun q hq j hj => ?_) (fun q hq => ?_) (fun q hq e => absurd e (tB2 q hq).2)
    · rcases tI q hq with ⟨z1, z2, z3⟩ | z
      · rw [(Q q.1 z2 (by omega) (by omega)).2.2.1, siteS_1 z1]; exact C.d.1 q hq
      · rw [z]
        show fi h3 13 2 = (siteS σ x y).1 46
        rw [hz]
        exact (show (s1 (s2 (s2 σ 47 (cn σ 46) x) 48 (cn σ 46) y) 46 (nI (cn σ 46 + 1))).1 46 = nI (cn σ 46 + 1) from s1_eq).symm
    · have := tC q hq
      exact (Q q.1 (by omega) (by omega) (by omega)).2.2.1
    · have hm := Nat.lt_of_lt_of_le hj (W.1.F q hq)
      have hc : q.2.2.2.1 = 46 → j < cn σ 46 := fun e => by rw [e] at hj; exact hj
      have := tF q hq
      exact (Q (q.1 + j) (by omega) (by omega) (by omega)).2.2.1
    · have hc : q.2.2.2.1 = 46 → j < cn σ 46 := fun e => by rw [e] at hj; exact hj
      have := tK q hq
      exact siteS_row (by omega)
    · rcases tN q hq e with rfl | rfl
      · show fi h3 (210 + cn σ 46) 0 = (siteS σ x y).2 47 (cn σ 46)
        rw [qn.2.2.1, siteH_f0]
        unfold siteS
        simp [s1, s2_ite]
      · show fi h3 (210 + cn σ 46) 1 = (siteS σ x y).2 48 (cn σ 46)
        rw [qn.2.2.1, siteH_f1]
        unfold siteS
        simp [s1, s2_ite]
    · have := (tA q hq).1
      exact (Q q.1 (by omega) (by omega) (by omega)).2.2.2.2.1
    · exact siteS_r (tA q hq).2
    · have hm := Nat.lt_of_lt_of_le hj (W.1.B q hq)
      have := tB q hq
      exact (Q (q.1 + j) (by omega) (by omega) (by omega)).2.2.2.2.1
    · exact siteS_r (tB2 q hq).1
  · intro q hq
    have tO : ∀ q ∈ oB, q = (210, 46, 5, 8) ∨ (q.2.1 ≠ 46 ∧ ((q.1 + q.2.2.2 ≤ 210 ∧ 14 ≤ q.1) ∨ 210 + 8 ≤ q.1) ∧ q.1 + q.2.2.2 ≤ 414 ∧ q.2.1 < 100) := by decide
    have tO2 : ∀ q ∈ oB, ct σ q.2.1 ≤ q.2.2.2 := by
      have t : ∀ q ∈ oB, (q.2.1 = 0 ∧ q.2.2.2 = 8) ∨ (q.2.1 = 26 ∧ q.2.2.2 = 24) ∨ (q.2.1 = 46 ∧ q.2.2.2 = 8) := by decide
      intro q hq
      rcases t q hq with ⟨e1, e2⟩ | ⟨e1, e2⟩ | ⟨e1, e2⟩
      · rw [e1, e2]; exact hG.2
      · rw [e1, e2]; exact hF.2
      · rw [e1, e2]; exact hS.2
    have O := C.2.2.2.1 q hq
    rcases tO q hq with rfl | ⟨z1, z2, z3, z4⟩
    · have cs : ct (siteS σ x y) 46 = cn σ 46 + 1 := c'
      refine ⟨fun j hj => ?_, fun j h1 h2 => ?_⟩
      · rw [cs] at hj
        show kd h3 (210 + j) = 5
        by_cases ej : j = cn σ 46
        · rw [ej, qn.1]; exact siteH_k
        · rw [(Q (210 + j) (by omega) (by omega) (by omega)).1]; exact O.1 j (show j < cn σ 46 by omega)
      · rw [cs] at h1
        show kd h3 (210 + j) = 0
        have h2' : j < 8 := h2
        rw [(Q (210 + j) (by omega) (by omega) (by omega)).1]
        exact O.2 j (show cn σ 46 ≤ j by omega) h2
    · rw [siteS_ct z1]
      have hm := tO2 q hq
      refine ⟨fun j hj => ?_, fun j h1 h2 => ?_⟩
      · rw [(Q (q.1 + j) (by omega) (by omega) (by omega)).1]; exact O.1 j hj
      · rw [(Q (q.1 + j) (by omega) (by omega) (by omega)).1]; exact O.2 j h1 h2
  · exact C.2.2.2.2.1.eq (fun r h1 h2 => Q r (by omega) (by omega) (by omega)) hF.2 c26 (siteS_r (by decide)) (siteS_r (by decide))
  · exact C.2.2.2.2.2.1.eq (Q 1 (by omega) (by omega) (by omega)) (fun r h1 h2 => Q r (by omega) (by omega) (by omega)) hF.2 (by rw [c26]; exact Nat.le_refl _) (siteS_1 (by decide)) (siteS_r (by decide))
  · exact C.2.2.2.2.2.2.2.2.1.eq (Q 11 (by omega) (by omega) (by omega)) (fun i hi => Q _ (by omega) (by omega) (by omega)) (fun r h1 h2 => Q r (by omega) (by omega) (by omega)) hu (siteS_1 (by decide)) (fun k h1 h2 => siteS_r (by omega))
  · rw [cot]; exact C.2.2.2.2.2.2.2.2.2.1.eq (Q 10 (by omega) (by omega) (by omega)) (fun i hi => Q _ (by omega) (by omega) (by omega))
  · rw [c26]; exact C.2.2.2.2.2.2.2.2.2.2.1.eq (Q 12 (by omega) (by omega) (by omega)) (fun i hi => Q _ (by omega) (by omega) (by omega))
  · rw [c']; exact Z
theorem site_wv {x y : Int32} (W : WV σ) (hn : cn σ 46 < 8) (b47 : bd x 100) (b48 : bd y 100) : WV (siteS σ x y) := by
  have W4 : WR (s2 (s2 σ 47 (cn σ 46) x) 48 (cn σ 46) y) := WR.w2_48 (σ := (s2 σ 47 (cn σ 46) x)) (WR.w2_47 (σ := σ) (W.2.1) b47) b48
  have v : ∀ q ∈ wR, q.2.1 = 46 → bd ((s2 (s2 σ 47 (cn σ 46) x) 48 (cn σ 46) y).2 q.1 (cn σ 46)) (ct (s2 (s2 σ 47 (cn σ 46) x) 48 (cn σ 46) y) q.2.2) := by
    intro q hq e
    have t : ∀ q ∈ wR, q.2.1 = 46 → (q.1 = 47 ∧ q.2.2 = 200) ∨ (q.1 = 48 ∧ q.2.2 = 200) := by decide
    rcases t q hq e with ⟨e1, e2⟩ | ⟨e1, e2⟩
    · rw [e1, e2, show (s2 (s2 σ 47 (cn σ 46) x) 48 (cn σ 46) y).2 47 (cn σ 46) = x by simp [s2_ite]]; exact b47
    · rw [e1, e2, show (s2 (s2 σ 47 (cn σ 46) x) 48 (cn σ 46) y).2 48 (cn σ 46) = y by simp [s2_ite]]; exact b48
  refine W.of2 (CT.cc (σ := s2 (s2 σ 47 (cn σ 46) x) 48 (cn σ 46) y) W.1 (fun q hq e => ?_) (by omega)) (fun k hk => ?_) (fun k hk => ?_) (WR.cc W4 rfl (show cn σ 46 + 1 < 2 ^ 31 by omega) (by decide) (by decide) v) ?_
  · have t : ∀ q ∈ cmax, q.1 = 46 → q.2 = 8 := by decide
    rw [t q hq e]; omega
  · have t : ∀ k ∈ vs3, k ≠ 46 := by decide
    exact s1_ne (t k hk)
  · have t : ∀ k ∈ vs2, k ≠ 47 ∧ k ≠ 48 := by decide
    exact siteS_r (t k hk)
  · unfold WL
    rw [show (siteS σ x y).2 5 = σ.2 5 from siteS_r (by decide)]
    exact W.2.2.1
theorem pub_site {a b : Int32} (I : INV L xs h σ tr u n) (hn5 : n ≤ 600) : ∃ v h1 h2 σ' tr' u', f_X11_site h 1 a b = some (v, h1) ∧ f_X12_site h1 100 a b = some (v, h2) ∧ (kd h1 9000 = 30 ∧ ln h1 9000 = L ∧ ai h1 9000 = xs) ∧ INV L xs h2 σ' tr' u' (n + 1) := by
  obtain ⟨C, H, W, X, S, U⟩ := id I
  have hC := W.1.s
  by_cases hp : ok a 100 = true ∧ ok b 100 = true
  · obtain ⟨oa, ob⟩ := hp
    obtain ⟨x, hx, rfl⟩ := ok_of (by decide) oa
    obtain ⟨y, hy, rfl⟩ := ok_of (by decide) ob
    by_cases hf : cn σ 46 = 8
    · have e8 : σ.1 46 = 8 := by rw [hC.1, hf]; exact lt8.symm
      have e88 : ¬ ((8 : Int32) < 8) := by decide
      exact ⟨-4, h, h, σ, tr, u, by simp only [f_X11_site, obs, b10, b01, bm, if_true_, if_false_, eq_self, not_true_eq_false, not_false_eq_true, true_or, or_true, or_false, false_or, and_true, true_and, and_false, false_and, or_self, and_self, Bool.false_eq_true, ite_self, n25, n20, n24, n100, kk1 C, RS.kk H, c_isGauge C W.1, c_isTerm C W.1, c_isFarm C W.1, c_isSeason, c_isPlace, r_isGauge H W.1, r_isTerm H W.1, r_isFarm H W.1, r_isSeason, r_isWeek, r_isPlace, r_isSheet, ci1, ri1, ci2, ri2, ci3, ri3, ci4, ri4, ci5, ri5, ci11, ri11, ci16, ri16, ci98, ri98, ci99, ri99, ci198, ri198, ci9999, ri9999, oa, ob, kr1_3 C, kz13 C, e8, e88], by simp only [f_X12_site, obs, b10, b01, bm, if_true_, if_false_, eq_self, not_true_eq_false, not_false_eq_true, true_or, or_true, or_false, false_or, and_true, true_and, and_false, false_and, or_self, and_self, Bool.false_eq_true, ite_self, n25, n20, n24, n100, kk1 C, RS.kk H, c_isGauge C W.1, c_isTerm C W.1, c_isFarm C W.1, c_isSeason, c_isPlace, r_isGauge H W.1, r_isTerm H W.1, r_isFarm H W.1, r_isSeason, r_isWeek, r_isPlace, r_isSheet, ci1, ri1, ci2, ri2, ci3, ri3, ci4, ri4, ci5, ri5, ci11, ri11, ci16, ri16, ci98, ri98, ci99, ri99, ci198, ri198, ci9999, ri9999, oa, ob, RS.gi H, e8], S, I.up (by omega)⟩
    have hn8 : cn σ 46 < 8 := by omega
    have fl : fi h 13 2 = σ.1 46 := C.d.1 (13, 2, 46) (by decide)
    have fl2 : (fi h 13 2).toNatClampNeg = cn σ 46 := by rw [fl]; rfl
    have kz : kd h (210 + cn σ 46) = 0 := (C.2.2.2.1 (210, 46, 5, 8) (by decide)).2 (cn σ 46) (Nat.le_refl _) hn8
    have kin : ∀ j, j < cn σ 46 → kd h (210 + j) = 5 := fun j hj => C.oj (b := 210) (c := 46) (k := 5) (m := 8) (by decide) hj
    have Z0 : LZ h 13 (cn σ 46) (fun j => 210 + j) := C.2.2.2.2.2.2.2.2.2.2.2
    have Z2 : LZ (siteH h σ (nI x) (nI y)) 13 (cn σ 46) (fun j => 210 + j) := Z0.eq (siteH_q (by omega)) (fun i hi => siteH_q (by omega))
    have kv := siteH_k (h := h) (σ := σ) (x := nI x) (y := nI y)
    have ql := siteH_q (h := h) (σ := σ) (x := nI x) (y := nI y) (r := 13) (by omega)
    have q92 := siteH_q (h := h) (σ := σ) (x := nI x) (y := nI y) (r := 9200) (by omega)
    have q93 := siteH_q (h := h) (σ := σ) (x := nI x) (y := nI y) (r := 9300) (by omega)
    obtain ⟨h3, e3, Z3, i3, k3, Q3⟩ := Z2.add (v := 210 + cn σ 46) (by omega) (by rw [ql.1]; exact kk13 C) (by rw [ql.2.2.1, fl]; exact hC.1) (by omega) (by rw [kv]; omega) rfl (fun j hj => by rw [(siteH_q (show 210 + j ≠ 210 + cn σ 46 by omega)).1, kin j hj]; omega) (by rw [q92.1, q92.2.1]; exact C.2.1.2.2.2.1) (by rw [q93.1]; exact C.2.1.2.2.2.2) (fun j hj => by omega)
    have C3 := site_cs C W hn8 (by omega) Z3 i3 k3 Q3
    have QQ : ∀ r, r ≠ 13 → r ≠ 210 + cn σ 46 → (r < 400 + 8 * 13 ∨ 408 + 8 * 13 ≤ r) → EQR h h3 r := fun r h1 h2 h4 => (siteH_q h2).trans (Q3 r h1 h4)
    have H3 : RS h3 σ := H.eq (fun r h1 h2 => QQ r (by omega) (by omega) (by omega))
    have S3 : kd h3 9000 = 30 ∧ ln h3 9000 = L ∧ ai h3 9000 = xs := by
      have q := QQ 9000 (by omega) (by omega) (by omega)
      rw [q.1, q.2.1, q.2.2.2.2.1]; exact S
    have w1 := rw47 H3 (n := cn σ 46) (x := nI x) hn8
    have w2 := rw48 w1.2 (n := cn σ 46) (x := nI y) hn8
    have wl := w2.2.fi 46 (nI (cn σ 46 + 1))
    have cc1 : (s2 σ 47 (cn σ 46) (nI x)).1 46 = nI (cn σ 46) := hC.1
    have cc2 : (s2 (s2 σ 47 (cn σ 46) (nI x)) 48 (cn σ 46) (nI y)).1 46 = nI (cn σ 46) := hC.1
    have hne : ¬ σ.1 46 = 8 := by rw [hC.1, lt8, nI_eq (by omega) (by decide)]; exact hf
    have hpl : ¬ (if ok (nI x) 100 = true ∧ ok (nI y) 100 = true then (1 : Int32) else 0) = 0 := by rw [if_pos ⟨oa, ob⟩]; decide
    have hlt : σ.1 46 < 8 := by rw [hC.1, lt8]; exact nI_lt hn8 (by decide)
    have X' : WX (siteS σ (nI x) (nI y)) (n + 1) := (X.up (by omega)).of (fun k hk => by
      have t : ∀ k ∈ xs1, k ≠ 46 := by decide
      exact siteS_1 (t k hk)) (fun k hk => by
      have t : ∀ k ∈ xs2, k ≠ 47 ∧ k ≠ 48 := by decide
      exact siteS_r (t k hk))
    have kv1 : kd (mkc h (210 + cn σ 46) 5 0) (210 + cn σ 46) = 5 := kd_mkc
    have g2 : gl h [1, 13] = some () := gl2 (by rw [kk1 C]; decide) (by rw [kk13 C]; decide)
    have g1 : gl (siteH h σ (nI x) (nI y)) [1] = some () := gl1 (by rw [(siteH_q (show 1 ≠ 210 + cn σ 46 by omega)).1, kk1 C]; decide)
    have ini : f_X3_init (mkc h (210 + cn σ 46) 5 0) (210 + cn σ 46) (nI x) (nI y) 0 = some (siteH h σ (nI x) (nI y)) := x3_init kv1
    have nw : xnw h (210 + cn σ 46) 4 = some (mkc h (210 + cn σ 46) 5 0) := xnw_ok kz
    have sz3 : f_Jx4a65c_size_8abf5 h3 13 = some (nI (cn σ 46 + 1)) := by
      unfold f_Jx4a65c_size_8abf5
      rw [if_pos k3, xgi_ok k3, i3]; rfl
    refine ⟨nI (cn σ 46), h3, _, siteS σ (nI x) (nI y), tr, u, ?_, ?_, S3, I.st C3 (((FRc.a (r := 147) (by omega) (by omega)).trans (FRc.a (r := 148) (by omega) (by omega))).trans FRc.f) wl (site_wv W hn8 ⟨x, hx, rfl⟩ ⟨y, hy, rfl⟩) X' S3 (by omega)⟩
    · simp only [f_X11_site, obs, b10, b01, bm, if_true_, if_false_, eq_self, not_true_eq_false, not_false_eq_true, true_or, or_true, or_false, false_or, and_true, true_and, and_false, false_and, or_self, and_self, Bool.false_eq_true, ite_self, n25, n20, n24, n100, kk1 C, RS.kk H, c_isGauge C W.1, c_isTerm C W.1, c_isFarm C W.1, c_isSeason, c_isPlace, r_isGauge H W.1, r_isTerm H W.1, r_isFarm H W.1, r_isSeason, r_isWeek, r_isPlace, r_isSheet, ci1, ri1, ci2, ri2, ci3, ri3, ci4, ri4, ci5, ri5, ci11, ri11, ci16, ri16, ci98, ri98, ci99, ri99, ci198, ri198, ci9999, ri9999, oa, ob, kr1_3 C, kz13 C, hlt, g2, fl2, nw, ini, g1, e3, kr1_3 C3, sz3, nI_pred]
    · unfold f_X12_site
      rw [if_pos H3.1, r_isPlace, obs, if_neg hpl, RS.gi H3, obs, if_neg hne, rg47 H3, obs, obs, hC.1, w1.1, obs, rg48 w1.2, obs, RS.gi w1.2, obs, cc1, w2.1, obs, RS.gi w2.2, obs, cc2, nI_1, w2.2.pi, obs, RS.gi wl, obs, s1_eq, nI_pred]
  · have hpn : ¬ (ok a 100 = true ∧ ok b 100 = true) := hp
    exact ⟨-2, h, h, σ, tr, u, by simp only [f_X11_site, obs, b10, b01, bm, if_true_, if_false_, eq_self, not_true_eq_false, not_false_eq_true, true_or, or_true, or_false, false_or, and_true, true_and, and_false, false_and, or_self, and_self, Bool.false_eq_true, ite_self, n25, n20, n24, n100, kk1 C, c_isPlace, hpn], by simp only [f_X12_site, obs, b10, b01, bm, if_true_, if_false_, eq_self, not_true_eq_false, not_false_eq_true, true_or, or_true, or_false, false_or, and_true, true_and, and_false, false_and, or_self, and_self, Bool.false_eq_true, ite_self, n25, n20, n24, n100, RS.kk H, r_isPlace, hpn], S, I.up (by omega)⟩
end
