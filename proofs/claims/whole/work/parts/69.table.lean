/-! ===== public: arrive, tables ===== -/
section
variable {L N : Nat} {xs : Nat → Int32} {h h' : AH} {σ σ' : SG} {tr : Nat → Nat} {u n : Nat}

def ta18 (h : AH) (σ : SG) (x0 x1 x2 x3 : Int32) : AH := sfi (sai (sai (sai (sai h 34 (4 * (cn σ 36)) x0) 34 (4 * (cn σ 36) + 1) x1) 34 (4 * (cn σ 36) + 2) x2) 34 (4 * (cn σ 36) + 3) x3) 18 3 (nI ((cn σ 36) + 1))
def ts18 (σ : SG) (x0 x1 x2 x3 : Int32) : SG := s1 (s2 (s2 (s2 (s2 σ 37 (cn σ 36) x0) 39 (cn σ 36) x1) 38 (cn σ 36) x2) 40 (cn σ 36) x3) 36 (nI ((cn σ 36) + 1))
theorem kadd18 (C : CS h σ tr u) (W : CT σ) {x0 x1 x2 x3 : Int32} (hn : (cn σ 36) < 60) : f_X7_add h 18 x0 x1 x2 x3 = some (nI (cn σ 36), ta18 h σ x0 x1 x2 x3) ∧ CS (ta18 h σ x0 x1 x2 x3) (ts18 σ x0 x1 x2 x3) tr u := by
  have hc := W.c
  have k34 := kk34 C
  have kt := kk18 C
  have ll := kl C (r := 34) (n := 240) (by decide)
  have y1 : xis h 34 (nI (4 * (cn σ 36))) x0 = some (sai h 34 (4 * (cn σ 36)) x0) := xis_of k34 ll (by omega) (by decide)
  have y2 : xis (sai h 34 (4 * (cn σ 36)) x0) 34 (nI (4 * (cn σ 36) + 1)) x1 = some (sai (sai h 34 (4 * (cn σ 36)) x0) 34 (4 * (cn σ 36) + 1) x1) := xis_of k34 ll (by omega) (by decide)
  have y3 : xis (sai (sai h 34 (4 * (cn σ 36)) x0) 34 (4 * (cn σ 36) + 1) x1) 34 (nI (4 * (cn σ 36) + 2)) x2 = some (sai (sai (sai h 34 (4 * (cn σ 36)) x0) 34 (4 * (cn σ 36) + 1) x1) 34 (4 * (cn σ 36) + 2) x2) := xis_of k34 ll (by omega) (by decide)
  have y4 : xis (sai (sai (sai h 34 (4 * (cn σ 36)) x0) 34 (4 * (cn σ 36) + 1) x1) 34 (4 * (cn σ 36) + 2) x2) 34 (nI (4 * (cn σ 36) + 3)) x3 = some (sai (sai (sai (sai h 34 (4 * (cn σ 36)) x0) 34 (4 * (cn σ 36) + 1) x1) 34 (4 * (cn σ 36) + 2) x2) 34 (4 * (cn σ 36) + 3) x3) := xis_of k34 ll (by omega) (by decide)
  have y5 : xpi (sai (sai (sai (sai h 34 (4 * (cn σ 36)) x0) 34 (4 * (cn σ 36) + 1) x1) 34 (4 * (cn σ 36) + 2) x2) 34 (4 * (cn σ 36) + 3) x3) 18 8 3 (nI ((cn σ 36) + 1)) = some (ta18 h σ x0 x1 x2 x3) := by unfold xpi; rw [if_pos (show kd (sai (sai (sai (sai h 34 (4 * (cn σ 36)) x0) 34 (4 * (cn σ 36) + 1) x1) 34 (4 * (cn σ 36) + 2) x2) 34 (4 * (cn σ 36) + 3) x3) 18 = 8 + 1 from kt)]; rfl
  have y6 : xgi (ta18 h σ x0 x1 x2 x3) 18 8 3 = some (nI ((cn σ 36) + 1)) := by unfold xgi; rw [if_pos (show kd (ta18 h σ x0 x1 x2 x3) 18 = 8 + 1 from kt)]; unfold ta18; rw [fi_sfi, if_pos ⟨rfl, rfl⟩]
  have em : nI (cn σ 36) * 4 = nI (4 * (cn σ 36)) := by rw [show (4 : Int32) = nI 4 by decide, nI_mul, Nat.mul_comm]
  have D1 := C.d.wA W.B (r := 34) (st := 4) (o := 0) (k := 37) (n := 60) (x := x0) (by decide) hn
  rw [Nat.add_zero] at D1
  have D2 := D1.wA W.B (r := 34) (st := 4) (o := 1) (k := 39) (n := 60) (x := x1) (by decide) hn
  have D3 := D2.wA W.B (r := 34) (st := 4) (o := 2) (k := 38) (n := 60) (x := x2) (by decide) hn
  have D4 := D3.wA W.B (r := 34) (st := 4) (o := 3) (k := 40) (n := 60) (x := x3) (by decide) hn
  have D5 := D4.wI W.F (r := 18) (f := 3) (k := 36) (x := nI ((cn σ 36) + 1)) (by decide) (by decide)
  refine ⟨?_, C.of rfl rfl rfl rfl D5 (fun r hr => ?_) (fun j hj => ⟨?_, ?_⟩) (fun r hr => ?_) (ks1_s1 (by decide)) (fun k hk => ?_) W⟩
  · have a1 : nI (4 * (cn σ 36)) + 2 = nI (4 * (cn σ 36) + 2) := by rw [lt2, nI_add]
    have a2 : nI (4 * (cn σ 36)) + 3 = nI (4 * (cn σ 36) + 3) := by rw [lt3, nI_add]
    have a3 : nI ((cn σ 36) + 1) - 1 = nI (cn σ 36) := nI_pred _
    simp only [f_X7_add, obs, b10, b01, bm, if_true_, if_false_, eq_self, not_true_eq_false, not_false_eq_true, true_or, or_true, or_false, false_or, and_true, true_and, and_false, false_and, or_self, and_self, Bool.false_eq_true, ite_self, n25, n20, n24, n100, kk18 C, ki18_3 C, hc.1, kw18 C, kr18_2 C, em, y1, xgr_sai, nI_1, y2, a1, y3, a2, y4, xgi_sai, y5, y6, a3]
  · show ai (sai (sai (sai (sai h 34 (4 * (cn σ 36)) x0) 34 (4 * (cn σ 36) + 1) x1) 34 (4 * (cn σ 36) + 2) x2) 34 (4 * (cn σ 36) + 3) x3) r = ai h r
    rw [ai_sai_ne (by omega), ai_sai_ne (by omega), ai_sai_ne (by omega), ai_sai_ne (by omega)]
  · show fi (sfi (sai (sai (sai (sai h 34 (4 * (cn σ 36)) x0) 34 (4 * (cn σ 36) + 1) x1) 34 (4 * (cn σ 36) + 2) x2) 34 (4 * (cn σ 36) + 3) x3) 18 3 (nI ((cn σ 36) + 1))) (300 + j) 0 = fi (sai (sai (sai (sai h 34 (4 * (cn σ 36)) x0) 34 (4 * (cn σ 36) + 1) x1) 34 (4 * (cn σ 36) + 2) x2) 34 (4 * (cn σ 36) + 3) x3) (300 + j) 0
    rw [fi_sfi_ne (by omega)]
  · show fi (sfi (sai (sai (sai (sai h 34 (4 * (cn σ 36)) x0) 34 (4 * (cn σ 36) + 1) x1) 34 (4 * (cn σ 36) + 2) x2) 34 (4 * (cn σ 36) + 3) x3) 18 3 (nI ((cn σ 36) + 1))) (360 + j) = fi (sai (sai (sai (sai h 34 (4 * (cn σ 36)) x0) 34 (4 * (cn σ 36) + 1) x1) 34 (4 * (cn σ 36) + 2) x2) 34 (4 * (cn σ 36) + 3) x3) (360 + j)
    rw [fi_sfi_ne (by omega)]
  · show fi (sfi (sai (sai (sai (sai h 34 (4 * (cn σ 36)) x0) 34 (4 * (cn σ 36) + 1) x1) 34 (4 * (cn σ 36) + 2) x2) 34 (4 * (cn σ 36) + 3) x3) 18 3 (nI ((cn σ 36) + 1))) r = fi (sai (sai (sai (sai h 34 (4 * (cn σ 36)) x0) 34 (4 * (cn σ 36) + 1) x1) 34 (4 * (cn σ 36) + 2) x2) 34 (4 * (cn σ 36) + 3) x3) r
    rw [fi_sfi_ne (by omega)]
  · show (s2 (s2 (s2 (s2 σ 37 (cn σ 36) x0) 39 (cn σ 36) x1) 38 (cn σ 36) x2) 40 (cn σ 36) x3).2 k = σ.2 k
    have t : ∀ k ∈ ks2, k ≠ 37 ∧ k ≠ 39 ∧ k ≠ 38 ∧ k ≠ 40 := by decide
    obtain ⟨t0, t1, t2, t3⟩ := t k hk
    rw [s2_row t3, s2_row t2, s2_row t1, s2_row t0]
theorem kfull18 (C : CS h σ tr u) (W : CT σ) : f_X7_isFull h 18 = some (if cn σ 36 = 60 then 1 else 0) := by
  have hc := W.c
  have l : (60 : Int32) = nI 60 := by decide
  by_cases q : cn σ 36 = 60
  · have q2 : ¬ cn σ 36 < 60 := by omega
    simp (disch := omega) only [f_X7_isFull, obs, b10, b01, bm, if_true_, if_false_, eq_self, not_true_eq_false, not_false_eq_true, true_or, or_true, or_false, false_or, and_true, true_and, and_false, false_and, or_self, and_self, Bool.false_eq_true, ite_self, n25, n20, n24, n100, kk18 C, ki18_3 C, hc.1, km18 C, l, nI_ltI, q2, q, Nat.lt_irrefl]
  · have q2 : cn σ 36 < 60 := by omega
    simp (disch := omega) only [f_X7_isFull, obs, b10, b01, bm, if_true_, if_false_, eq_self, not_true_eq_false, not_false_eq_true, true_or, or_true, or_false, false_or, and_true, true_and, and_false, false_and, or_self, and_self, Bool.false_eq_true, ite_self, n25, n20, n24, n100, kk18 C, ki18_3 C, hc.1, km18 C, l, nI_ltI, q2, q]
def ta19 (h : AH) (σ : SG) (x0 x1 x2 x3 : Int32) : AH := sfi (sai (sai (sai (sai h 35 (4 * (cn σ 41)) x0) 35 (4 * (cn σ 41) + 1) x1) 35 (4 * (cn σ 41) + 2) x2) 35 (4 * (cn σ 41) + 3) x3) 19 3 (nI ((cn σ 41) + 1))
def ts19 (σ : SG) (x0 x1 x2 x3 : Int32) : SG := s1 (s2 (s2 (s2 (s2 σ 42 (cn σ 41) x0) 43 (cn σ 41) x1) 44 (cn σ 41) x2) 45 (cn σ 41) x3) 41 (nI ((cn σ 41) + 1))
theorem kadd19 (C : CS h σ tr u) (W : CT σ) {x0 x1 x2 x3 : Int32} (hn : (cn σ 41) < 80) : f_X7_add h 19 x0 x1 x2 x3 = some (nI (cn σ 41), ta19 h σ x0 x1 x2 x3) ∧ CS (ta19 h σ x0 x1 x2 x3) (ts19 σ x0 x1 x2 x3) tr u := by
  have hc := W.l
  have k35 := kk35 C
  have kt := kk19 C
  have ll := kl C (r := 35) (n := 320) (by decide)
  have y1 : xis h 35 (nI (4 * (cn σ 41))) x0 = some (sai h 35 (4 * (cn σ 41)) x0) := xis_of k35 ll (by omega) (by decide)
  have y2 : xis (sai h 35 (4 * (cn σ 41)) x0) 35 (nI (4 * (cn σ 41) + 1)) x1 = some (sai (sai h 35 (4 * (cn σ 41)) x0) 35 (4 * (cn σ 41) + 1) x1) := xis_of k35 ll (by omega) (by decide)
  have y3 : xis (sai (sai h 35 (4 * (cn σ 41)) x0) 35 (4 * (cn σ 41) + 1) x1) 35 (nI (4 * (cn σ 41) + 2)) x2 = some (sai (sai (sai h 35 (4 * (cn σ 41)) x0) 35 (4 * (cn σ 41) + 1) x1) 35 (4 * (cn σ 41) + 2) x2) := xis_of k35 ll (by omega) (by decide)
  have y4 : xis (sai (sai (sai h 35 (4 * (cn σ 41)) x0) 35 (4 * (cn σ 41) + 1) x1) 35 (4 * (cn σ 41) + 2) x2) 35 (nI (4 * (cn σ 41) + 3)) x3 = some (sai (sai (sai (sai h 35 (4 * (cn σ 41)) x0) 35 (4 * (cn σ 41) + 1) x1) 35 (4 * (cn σ 41) + 2) x2) 35 (4 * (cn σ 41) + 3) x3) := xis_of k35 ll (by omega) (by decide)
  have y5 : xpi (sai (sai (sai (sai h 35 (4 * (cn σ 41)) x0) 35 (4 * (cn σ 41) + 1) x1) 35 (4 * (cn σ 41) + 2) x2) 35 (4 * (cn σ 41) + 3) x3) 19 8 3 (nI ((cn σ 41) + 1)) = some (ta19 h σ x0 x1 x2 x3) := by unfold xpi; rw [if_pos (show kd (sai (sai (sai (sai h 35 (4 * (cn σ 41)) x0) 35 (4 * (cn σ 41) + 1) x1) 35 (4 * (cn σ 41) + 2) x2) 35 (4 * (cn σ 41) + 3) x3) 19 = 8 + 1 from kt)]; rfl
  have y6 : xgi (ta19 h σ x0 x1 x2 x3) 19 8 3 = some (nI ((cn σ 41) + 1)) := by unfold xgi; rw [if_pos (show kd (ta19 h σ x0 x1 x2 x3) 19 = 8 + 1 from kt)]; unfold ta19; rw [fi_sfi, if_pos ⟨rfl, rfl⟩]
  have em : nI (cn σ 41) * 4 = nI (4 * (cn σ 41)) := by rw [show (4 : Int32) = nI 4 by decide, nI_mul, Nat.mul_comm]
  have D1 := C.d.wA W.B (r := 35) (st := 4) (o := 0) (k := 42) (n := 80) (x := x0) (by decide) hn
  rw [Nat.add_zero] at D1
  have D2 := D1.wA W.B (r := 35) (st := 4) (o := 1) (k := 43) (n := 80) (x := x1) (by decide) hn
  have D3 := D2.wA W.B (r := 35) (st := 4) (o := 2) (k := 44) (n := 80) (x := x2) (by decide) hn
  have D4 := D3.wA W.B (r := 35) (st := 4) (o := 3) (k := 45) (n := 80) (x := x3) (by decide) hn
  have D5 := D4.wI W.F (r := 19) (f := 3) (k := 41) (x := nI ((cn σ 41) + 1)) (by decide) (by decide)
  refine ⟨?_, C.of rfl rfl rfl rfl D5 (fun r hr => ?_) (fun j hj => ⟨?_, ?_⟩) (fun r hr => ?_) (ks1_s1 (by decide)) (fun k hk => ?_) W⟩
  · have a1 : nI (4 * (cn σ 41)) + 2 = nI (4 * (cn σ 41) + 2) := by rw [lt2, nI_add]
    have a2 : nI (4 * (cn σ 41)) + 3 = nI (4 * (cn σ 41) + 3) := by rw [lt3, nI_add]
    have a3 : nI ((cn σ 41) + 1) - 1 = nI (cn σ 41) := nI_pred _
    simp only [f_X7_add, obs, b10, b01, bm, if_true_, if_false_, eq_self, not_true_eq_false, not_false_eq_true, true_or, or_true, or_false, false_or, and_true, true_and, and_false, false_and, or_self, and_self, Bool.false_eq_true, ite_self, n25, n20, n24, n100, kk19 C, ki19_3 C, hc.1, kw19 C, kr19_2 C, em, y1, xgr_sai, nI_1, y2, a1, y3, a2, y4, xgi_sai, y5, y6, a3]
  · show ai (sai (sai (sai (sai h 35 (4 * (cn σ 41)) x0) 35 (4 * (cn σ 41) + 1) x1) 35 (4 * (cn σ 41) + 2) x2) 35 (4 * (cn σ 41) + 3) x3) r = ai h r
    rw [ai_sai_ne (by omega), ai_sai_ne (by omega), ai_sai_ne (by omega), ai_sai_ne (by omega)]
  · show fi (sfi (sai (sai (sai (sai h 35 (4 * (cn σ 41)) x0) 35 (4 * (cn σ 41) + 1) x1) 35 (4 * (cn σ 41) + 2) x2) 35 (4 * (cn σ 41) + 3) x3) 19 3 (nI ((cn σ 41) + 1))) (300 + j) 0 = fi (sai (sai (sai (sai h 35 (4 * (cn σ 41)) x0) 35 (4 * (cn σ 41) + 1) x1) 35 (4 * (cn σ 41) + 2) x2) 35 (4 * (cn σ 41) + 3) x3) (300 + j) 0
    rw [fi_sfi_ne (by omega)]
  · show fi (sfi (sai (sai (sai (sai h 35 (4 * (cn σ 41)) x0) 35 (4 * (cn σ 41) + 1) x1) 35 (4 * (cn σ 41) + 2) x2) 35 (4 * (cn σ 41) + 3) x3) 19 3 (nI ((cn σ 41) + 1))) (360 + j) = fi (sai (sai (sai (sai h 35 (4 * (cn σ 41)) x0) 35 (4 * (cn σ 41) + 1) x1) 35 (4 * (cn σ 41) + 2) x2) 35 (4 * (cn σ 41) + 3) x3) (360 + j)
    rw [fi_sfi_ne (by omega)]
  · show fi (sfi (sai (sai (sai (sai h 35 (4 * (cn σ 41)) x0) 35 (4 * (cn σ 41) + 1) x1) 35 (4 * (cn σ 41) + 2) x2) 35 (4 * (cn σ 41) + 3) x3) 19 3 (nI ((cn σ 41) + 1))) r = fi (sai (sai (sai (sai h 35 (4 * (cn σ 41)) x0) 35 (4 * (cn σ 41) + 1) x1) 35 (4 * (cn σ 41) + 2) x2) 35 (4 * (cn σ 41) + 3) x3) r
    rw [fi_sfi_ne (by omega)]
  · show (s2 (s2 (s2 (s2 σ 42 (cn σ 41) x0) 43 (cn σ 41) x1) 44 (cn σ 41) x2) 45 (cn σ 41) x3).2 k = σ.2 k
    have t : ∀ k ∈ ks2, k ≠ 42 ∧ k ≠ 43 ∧ k ≠ 44 ∧ k ≠ 45 := by decide
    obtain ⟨t0, t1, t2, t3⟩ := t k hk
    rw [s2_row t3, s2_row t2, s2_row t1, s2_row t0]
theorem kfull19 (C : CS h σ tr u) (W : CT σ) : f_X7_isFull h 19 = some (if cn σ 41 = 80 then 1 else 0) := by
  have hc := W.l
  have l : (80 : Int32) = nI 80 := by decide
  by_cases q : cn σ 41 = 80
  · have q2 : ¬ cn σ 41 < 80 := by omega
    simp (disch := omega) only [f_X7_isFull, obs, b10, b01, bm, if_true_, if_false_, eq_self, not_true_eq_false, not_false_eq_true, true_or, or_true, or_false, false_or, and_true, true_and, and_false, false_and, or_self, and_self, Bool.false_eq_true, ite_self, n25, n20, n24, n100, kk19 C, ki19_3 C, hc.1, km19 C, l, nI_ltI, q2, q, Nat.lt_irrefl]
  · have q2 : cn σ 41 < 80 := by omega
    simp (disch := omega) only [f_X7_isFull, obs, b10, b01, bm, if_true_, if_false_, eq_self, not_true_eq_false, not_false_eq_true, true_or, or_true, or_false, false_or, and_true, true_and, and_false, false_and, or_self, and_self, Bool.false_eq_true, ite_self, n25, n20, n24, n100, kk19 C, ki19_3 C, hc.1, km19 C, l, nI_ltI, q2, q]
def ta20 (h : AH) (σ : SG) (x0 x1 x2 x3 : Int32) : AH := sfi (sai (sai (sai (sai h 36 (4 * (cn σ 49)) x0) 36 (4 * (cn σ 49) + 1) x1) 36 (4 * (cn σ 49) + 2) x2) 36 (4 * (cn σ 49) + 3) x3) 20 3 (nI ((cn σ 49) + 1))
def ts20 (σ : SG) (x0 x1 x2 x3 : Int32) : SG := s1 (s2 (s2 (s2 (s2 σ 50 (cn σ 49) x0) 51 (cn σ 49) x1) 52 (cn σ 49) x2) 53 (cn σ 49) x3) 49 (nI ((cn σ 49) + 1))
theorem kadd20 (C : CS h σ tr u) (W : CT σ) {x0 x1 x2 x3 : Int32} (hn : (cn σ 49) < 200) : f_X7_add h 20 x0 x1 x2 x3 = some (nI (cn σ 49), ta20 h σ x0 x1 x2 x3) ∧ CS (ta20 h σ x0 x1 x2 x3) (ts20 σ x0 x1 x2 x3) tr u := by
  have hc := W.p
  have k36 := kk36 C
  have kt := kk20 C
  have ll := kl C (r := 36) (n := 800) (by decide)
  have y1 : xis h 36 (nI (4 * (cn σ 49))) x0 = some (sai h 36 (4 * (cn σ 49)) x0) := xis_of k36 ll (by omega) (by decide)
  have y2 : xis (sai h 36 (4 * (cn σ 49)) x0) 36 (nI (4 * (cn σ 49) + 1)) x1 = some (sai (sai h 36 (4 * (cn σ 49)) x0) 36 (4 * (cn σ 49) + 1) x1) := xis_of k36 ll (by omega) (by decide)
  have y3 : xis (sai (sai h 36 (4 * (cn σ 49)) x0) 36 (4 * (cn σ 49) + 1) x1) 36 (nI (4 * (cn σ 49) + 2)) x2 = some (sai (sai (sai h 36 (4 * (cn σ 49)) x0) 36 (4 * (cn σ 49) + 1) x1) 36 (4 * (cn σ 49) + 2) x2) := xis_of k36 ll (by omega) (by decide)
  have y4 : xis (sai (sai (sai h 36 (4 * (cn σ 49)) x0) 36 (4 * (cn σ 49) + 1) x1) 36 (4 * (cn σ 49) + 2) x2) 36 (nI (4 * (cn σ 49) + 3)) x3 = some (sai (sai (sai (sai h 36 (4 * (cn σ 49)) x0) 36 (4 * (cn σ 49) + 1) x1) 36 (4 * (cn σ 49) + 2) x2) 36 (4 * (cn σ 49) + 3) x3) := xis_of k36 ll (by omega) (by decide)
  have y5 : xpi (sai (sai (sai (sai h 36 (4 * (cn σ 49)) x0) 36 (4 * (cn σ 49) + 1) x1) 36 (4 * (cn σ 49) + 2) x2) 36 (4 * (cn σ 49) + 3) x3) 20 8 3 (nI ((cn σ 49) + 1)) = some (ta20 h σ x0 x1 x2 x3) := by unfold xpi; rw [if_pos (show kd (sai (sai (sai (sai h 36 (4 * (cn σ 49)) x0) 36 (4 * (cn σ 49) + 1) x1) 36 (4 * (cn σ 49) + 2) x2) 36 (4 * (cn σ 49) + 3) x3) 20 = 8 + 1 from kt)]; rfl
  have y6 : xgi (ta20 h σ x0 x1 x2 x3) 20 8 3 = some (nI ((cn σ 49) + 1)) := by unfold xgi; rw [if_pos (show kd (ta20 h σ x0 x1 x2 x3) 20 = 8 + 1 from kt)]; unfold ta20; rw [fi_sfi, if_pos ⟨rfl, rfl⟩]
  have em : nI (cn σ 49) * 4 = nI (4 * (cn σ 49)) := by rw [show (4 : Int32) = nI 4 by decide, nI_mul, Nat.mul_comm]
  have D1 := C.d.wA W.B (r := 36) (st := 4) (o := 0) (k := 50) (n := 200) (x := x0) (by decide) hn
  rw [Nat.add_zero] at D1
  have D2 := D1.wA W.B (r := 36) (st := 4) (o := 1) (k := 51) (n := 200) (x := x1) (by decide) hn
  have D3 := D2.wA W.B (r := 36) (st := 4) (o := 2) (k := 52) (n := 200) (x := x2) (by decide) hn
  have D4 := D3.wA W.B (r := 36) (st := 4) (o := 3) (k := 53) (n := 200) (x := x3) (by decide) hn
  have D5 := D4.wI W.F (r := 20) (f := 3) (k := 49) (x := nI ((cn σ 49) + 1)) (by decide) (by decide)
  refine ⟨?_, C.of rfl rfl rfl rfl D5 (fun r hr => ?_) (fun j hj => ⟨?_, ?_⟩) (fun r hr => ?_) (ks1_s1 (by decide)) (fun k hk => ?_) W⟩
  · have a1 : nI (4 * (cn σ 49)) + 2 = nI (4 * (cn σ 49) + 2) := by rw [lt2, nI_add]
    have a2 : nI (4 * (cn σ 49)) + 3 = nI (4 * (cn σ 49) + 3) := by rw [lt3, nI_add]
    have a3 : nI ((cn σ 49) + 1) - 1 = nI (cn σ 49) := nI_pred _
    simp only [f_X7_add, obs, b10, b01, bm, if_true_, if_false_, eq_self, not_true_eq_false, not_false_eq_true, true_or, or_true, or_false, false_or, and_true, true_and, and_false, false_and, or_self, and_self, Bool.false_eq_true, ite_self, n25, n20, n24, n100, kk20 C, ki20_3 C, hc.1, kw20 C, kr20_2 C, em, y1, xgr_sai, nI_1, y2, a1, y3, a2, y4, xgi_sai, y5, y6, a3]
  · show ai (sai (sai (sai (sai h 36 (4 * (cn σ 49)) x0) 36 (4 * (cn σ 49) + 1) x1) 36 (4 * (cn σ 49) + 2) x2) 36 (4 * (cn σ 49) + 3) x3) r = ai h r
    rw [ai_sai_ne (by omega), ai_sai_ne (by omega), ai_sai_ne (by omega), ai_sai_ne (by omega)]
  · show fi (sfi (sai (sai (sai (sai h 36 (4 * (cn σ 49)) x0) 36 (4 * (cn σ 49) + 1) x1) 36 (4 * (cn σ 49) + 2) x2) 36 (4 * (cn σ 49) + 3) x3) 20 3 (nI ((cn σ 49) + 1))) (300 + j) 0 = fi (sai (sai (sai (sai h 36 (4 * (cn σ 49)) x0) 36 (4 * (cn σ 49) + 1) x1) 36 (4 * (cn σ 49) + 2) x2) 36 (4 * (cn σ 49) + 3) x3) (300 + j) 0
    rw [fi_sfi_ne (by omega)]
  · show fi (sfi (sai (sai (sai (sai h 36 (4 * (cn σ 49)) x0) 36 (4 * (cn σ 49) + 1) x1) 36 (4 * (cn σ 49) + 2) x2) 36 (4 * (cn σ 49) + 3) x3) 20 3 (nI ((cn σ 49) + 1))) (360 + j) = fi (sai (sai (sai (sai h 36 (4 * (cn σ 49)) x0) 36 (4 * (cn σ 49) + 1) x1) 36 (4 * (cn σ 49) + 2) x2) 36 (4 * (cn σ 49) + 3) x3) (360 + j)
    rw [fi_sfi_ne (by omega)]
  · show fi (sfi (sai (sai (sai (sai h 36 (4 * (cn σ 49)) x0) 36 (4 * (cn σ 49) + 1) x1) 36 (4 * (cn σ 49) + 2) x2) 36 (4 * (cn σ 49) + 3) x3) 20 3 (nI ((cn σ 49) + 1))) r = fi (sai (sai (sai (sai h 36 (4 * (cn σ 49)) x0) 36 (4 * (cn σ 49) + 1) x1) 36 (4 * (cn σ 49) + 2) x2) 36 (4 * (cn σ 49) + 3) x3) r
    rw [fi_sfi_ne (by omega)]
  · show (s2 (s2 (s2 (s2 σ 50 (cn σ 49) x0) 51 (cn σ 49) x1) 52 (cn σ 49) x2) 53 (cn σ 49) x3).2 k = σ.2 k
    have t : ∀ k ∈ ks2, k ≠ 50 ∧ k ≠ 51 ∧ k ≠ 52 ∧ k ≠ 53 := by decide
    obtain ⟨t0, t1, t2, t3⟩ := t k hk
    rw [s2_row t3, s2_row t2, s2_row t1, s2_row t0]
theorem kfull20 (C : CS h σ tr u) (W : CT σ) : f_X7_isFull h 20 = some (if cn σ 49 = 200 then 1 else 0) := by
  have hc := W.p
  have l : (200 : Int32) = nI 200 := by decide
  by_cases q : cn σ 49 = 200
  · have q2 : ¬ cn σ 49 < 200 := by omega
    simp (disch := omega) only [f_X7_isFull, obs, b10, b01, bm, if_true_, if_false_, eq_self, not_true_eq_false, not_false_eq_true, true_or, or_true, or_false, false_or, and_true, true_and, and_false, false_and, or_self, and_self, Bool.false_eq_true, ite_self, n25, n20, n24, n100, kk20 C, ki20_3 C, hc.1, km20 C, l, nI_ltI, q2, q, Nat.lt_irrefl]
  · have q2 : cn σ 49 < 200 := by omega
    simp (disch := omega) only [f_X7_isFull, obs, b10, b01, bm, if_true_, if_false_, eq_self, not_true_eq_false, not_false_eq_true, true_or, or_true, or_false, false_or, and_true, true_and, and_false, false_and, or_self, and_self, Bool.false_eq_true, ite_self, n25, n20, n24, n100, kk20 C, ki20_3 C, hc.1, km20 C, l, nI_ltI, q2, q]
def ta21 (h : AH) (σ : SG) (x0 x1 x2 x3 : Int32) : AH := sfi (sai (sai (sai (sai h 37 (5 * (cn σ 55)) x0) 37 (5 * (cn σ 55) + 1) x1) 37 (5 * (cn σ 55) + 2) x2) 37 (5 * (cn σ 55) + 3) x3) 21 3 (nI ((cn σ 55) + 1))
def ts21 (σ : SG) (x0 x1 x2 x3 : Int32) : SG := s1 (s2 (s2 (s2 (s2 σ 56 (cn σ 55) x0) 57 (cn σ 55) x1) 58 (cn σ 55) x2) 59 (cn σ 55) x3) 55 (nI ((cn σ 55) + 1))
theorem kadd21 (C : CS h σ tr u) (W : CT σ) {x0 x1 x2 x3 : Int32} (hn : (cn σ 55) < 20) : f_X7_add h 21 x0 x1 x2 x3 = some (nI (cn σ 55), ta21 h σ x0 x1 x2 x3) ∧ CS (ta21 h σ x0 x1 x2 x3) (ts21 σ x0 x1 x2 x3) tr u := by
  have hc := W.q
  have k37 := kk37 C
  have kt := kk21 C
  have ll := kl C (r := 37) (n := 100) (by decide)
  have y1 : xis h 37 (nI (5 * (cn σ 55))) x0 = some (sai h 37 (5 * (cn σ 55)) x0) := xis_of k37 ll (by omega) (by decide)
  have y2 : xis (sai h 37 (5 * (cn σ 55)) x0) 37 (nI (5 * (cn σ 55) + 1)) x1 = some (sai (sai h 37 (5 * (cn σ 55)) x0) 37 (5 * (cn σ 55) + 1) x1) := xis_of k37 ll (by omega) (by decide)
  have y3 : xis (sai (sai h 37 (5 * (cn σ 55)) x0) 37 (5 * (cn σ 55) + 1) x1) 37 (nI (5 * (cn σ 55) + 2)) x2 = some (sai (sai (sai h 37 (5 * (cn σ 55)) x0) 37 (5 * (cn σ 55) + 1) x1) 37 (5 * (cn σ 55) + 2) x2) := xis_of k37 ll (by omega) (by decide)
  have y4 : xis (sai (sai (sai h 37 (5 * (cn σ 55)) x0) 37 (5 * (cn σ 55) + 1) x1) 37 (5 * (cn σ 55) + 2) x2) 37 (nI (5 * (cn σ 55) + 3)) x3 = some (sai (sai (sai (sai h 37 (5 * (cn σ 55)) x0) 37 (5 * (cn σ 55) + 1) x1) 37 (5 * (cn σ 55) + 2) x2) 37 (5 * (cn σ 55) + 3) x3) := xis_of k37 ll (by omega) (by decide)
  have y5 : xpi (sai (sai (sai (sai h 37 (5 * (cn σ 55)) x0) 37 (5 * (cn σ 55) + 1) x1) 37 (5 * (cn σ 55) + 2) x2) 37 (5 * (cn σ 55) + 3) x3) 21 8 3 (nI ((cn σ 55) + 1)) = some (ta21 h σ x0 x1 x2 x3) := by unfold xpi; rw [if_pos (show kd (sai (sai (sai (sai h 37 (5 * (cn σ 55)) x0) 37 (5 * (cn σ 55) + 1) x1) 37 (5 * (cn σ 55) + 2) x2) 37 (5 * (cn σ 55) + 3) x3) 21 = 8 + 1 from kt)]; rfl
  have y6 : xgi (ta21 h σ x0 x1 x2 x3) 21 8 3 = some (nI ((cn σ 55) + 1)) := by unfold xgi; rw [if_pos (show kd (ta21 h σ x0 x1 x2 x3) 21 = 8 + 1 from kt)]; unfold ta21; rw [fi_sfi, if_pos ⟨rfl, rfl⟩]
  have em : nI (cn σ 55) * 5 = nI (5 * (cn σ 55)) := by rw [show (5 : Int32) = nI 5 by decide, nI_mul, Nat.mul_comm]
  have D1 := C.d.wA W.B (r := 37) (st := 5) (o := 0) (k := 56) (n := 20) (x := x0) (by decide) hn
  rw [Nat.add_zero] at D1
  have D2 := D1.wA W.B (r := 37) (st := 5) (o := 1) (k := 57) (n := 20) (x := x1) (by decide) hn
  have D3 := D2.wA W.B (r := 37) (st := 5) (o := 2) (k := 58) (n := 20) (x := x2) (by decide) hn
  have D4 := D3.wA W.B (r := 37) (st := 5) (o := 3) (k := 59) (n := 20) (x := x3) (by decide) hn
  have D5 := D4.wI W.F (r := 21) (f := 3) (k := 55) (x := nI ((cn σ 55) + 1)) (by decide) (by decide)
  refine ⟨?_, C.of rfl rfl rfl rfl D5 (fun r hr => ?_) (fun j hj => ⟨?_, ?_⟩) (fun r hr => ?_) (ks1_s1 (by decide)) (fun k hk => ?_) W⟩
  · have a1 : nI (5 * (cn σ 55)) + 2 = nI (5 * (cn σ 55) + 2) := by rw [lt2, nI_add]
    have a2 : nI (5 * (cn σ 55)) + 3 = nI (5 * (cn σ 55) + 3) := by rw [lt3, nI_add]
    have a3 : nI ((cn σ 55) + 1) - 1 = nI (cn σ 55) := nI_pred _
    simp only [f_X7_add, obs, b10, b01, bm, if_true_, if_false_, eq_self, not_true_eq_false, not_false_eq_true, true_or, or_true, or_false, false_or, and_true, true_and, and_false, false_and, or_self, and_self, Bool.false_eq_true, ite_self, n25, n20, n24, n100, kk21 C, ki21_3 C, hc.1, kw21 C, kr21_2 C, em, y1, xgr_sai, nI_1, y2, a1, y3, a2, y4, xgi_sai, y5, y6, a3]
  · show ai (sai (sai (sai (sai h 37 (5 * (cn σ 55)) x0) 37 (5 * (cn σ 55) + 1) x1) 37 (5 * (cn σ 55) + 2) x2) 37 (5 * (cn σ 55) + 3) x3) r = ai h r
    rw [ai_sai_ne (by omega), ai_sai_ne (by omega), ai_sai_ne (by omega), ai_sai_ne (by omega)]
  · show fi (sfi (sai (sai (sai (sai h 37 (5 * (cn σ 55)) x0) 37 (5 * (cn σ 55) + 1) x1) 37 (5 * (cn σ 55) + 2) x2) 37 (5 * (cn σ 55) + 3) x3) 21 3 (nI ((cn σ 55) + 1))) (300 + j) 0 = fi (sai (sai (sai (sai h 37 (5 * (cn σ 55)) x0) 37 (5 * (cn σ 55) + 1) x1) 37 (5 * (cn σ 55) + 2) x2) 37 (5 * (cn σ 55) + 3) x3) (300 + j) 0
    rw [fi_sfi_ne (by omega)]
  · show fi (sfi (sai (sai (sai (sai h 37 (5 * (cn σ 55)) x0) 37 (5 * (cn σ 55) + 1) x1) 37 (5 * (cn σ 55) + 2) x2) 37 (5 * (cn σ 55) + 3) x3) 21 3 (nI ((cn σ 55) + 1))) (360 + j) = fi (sai (sai (sai (sai h 37 (5 * (cn σ 55)) x0) 37 (5 * (cn σ 55) + 1) x1) 37 (5 * (cn σ 55) + 2) x2) 37 (5 * (cn σ 55) + 3) x3) (360 + j)
    rw [fi_sfi_ne (by omega)]
  · show fi (sfi (sai (sai (sai (sai h 37 (5 * (cn σ 55)) x0) 37 (5 * (cn σ 55) + 1) x1) 37 (5 * (cn σ 55) + 2) x2) 37 (5 * (cn σ 55) + 3) x3) 21 3 (nI ((cn σ 55) + 1))) r = fi (sai (sai (sai (sai h 37 (5 * (cn σ 55)) x0) 37 (5 * (cn σ 55) + 1) x1) 37 (5 * (cn σ 55) + 2) x2) 37 (5 * (cn σ 55) + 3) x3) r
    rw [fi_sfi_ne (by omega)]
  · show (s2 (s2 (s2 (s2 σ 56 (cn σ 55) x0) 57 (cn σ 55) x1) 58 (cn σ 55) x2) 59 (cn σ 55) x3).2 k = σ.2 k
    have t : ∀ k ∈ ks2, k ≠ 56 ∧ k ≠ 57 ∧ k ≠ 58 ∧ k ≠ 59 := by decide
    obtain ⟨t0, t1, t2, t3⟩ := t k hk
    rw [s2_row t3, s2_row t2, s2_row t1, s2_row t0]
theorem kfull21 (C : CS h σ tr u) (W : CT σ) : f_X7_isFull h 21 = some (if cn σ 55 = 20 then 1 else 0) := by
  have hc := W.q
  have l : (20 : Int32) = nI 20 := by decide
  by_cases q : cn σ 55 = 20
  · have q2 : ¬ cn σ 55 < 20 := by omega
    simp (disch := omega) only [f_X7_isFull, obs, b10, b01, bm, if_true_, if_false_, eq_self, not_true_eq_false, not_false_eq_true, true_or, or_true, or_false, false_or, and_true, true_and, and_false, false_and, or_self, and_self, Bool.false_eq_true, ite_self, n25, n20, n24, n100, kk21 C, ki21_3 C, hc.1, km21 C, l, nI_ltI, q2, q, Nat.lt_irrefl]
  · have q2 : cn σ 55 < 20 := by omega
    simp (disch := omega) only [f_X7_isFull, obs, b10, b01, bm, if_true_, if_false_, eq_self, not_true_eq_false, not_false_eq_true, true_or, or_true, or_false, false_or, and_true, true_and, and_false, false_and, or_self, and_self, Bool.false_eq_true, ite_self, n25, n20, n24, n100, kk21 C, ki21_3 C, hc.1, km21 C, l, nI_ltI, q2, q]
end
