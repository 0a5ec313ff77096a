/-! ===== public: enroll, look ===== -/
section
variable {L N : Nat} {xs : Nat → Int32} {h h' : AH} {σ σ' : SG} {tr : Nat → Nat} {u n : Nat}

theorem s2_comm {k k' j j' : Nat} {x y : Int32} (e : k ≠ k') : s2 (s2 σ k j x) k' j' y = s2 (s2 σ k' j' y) k j x := by
  refine Prod.ext rfl ?_
  funext a
  funext b
  rw [s2_ite, s2_ite, s2_ite, s2_ite]
  by_cases q1 : a = k' ∧ b = j'
  · have q2 : ¬ (a = k ∧ b = j) := fun z => e (z.1.symm.trans q1.1)
    rw [if_pos q1, if_neg q2, if_pos q1]
  · rw [if_neg q1, if_neg q1]
theorem cn_eq {c m : Nat} (e : σ.1 c = nI m) (hm : m < 2 ^ 31) : cn σ c = m := by
  unfold cn
  rw [e, nI_clamp hm]
theorem CT.cc (W : CT σ) {c m : Nat} (hm : ∀ q ∈ cmax, q.1 = c → m ≤ q.2) (hb : m < 2 ^ 31) : CT (s1 σ c (nI m)) := by
  intro q hq
  by_cases e : q.1 = c
  · have e2 : (s1 σ c (nI m)).1 q.1 = nI m := by rw [e, s1_eq]
    rw [cn_eq e2 hb, e2]
    exact ⟨rfl, hm q hq e⟩
  · have e2 : cn (s1 σ c (nI m)) q.1 = cn σ q.1 := by unfold cn; rw [s1_ne e]
    rw [e2, s1_ne e]
    exact W q hq
theorem WR.cc (W : WR σ) {c m : Nat} (hn : cn σ c = m) (hb : m + 1 < 2 ^ 31) (hc : c < 100) (h2 : ∀ q ∈ wR, q.2.2 ≠ c) (hx : ∀ q ∈ wR, q.2.1 = c → bd (σ.2 q.1 m) (ct σ q.2.2)) : WR (s1 σ c (nI (m + 1))) := by
  intro q hq i hi
  rw [ct_s1 (h2 q hq)]
  by_cases e : q.2.1 = c
  · have e2 : ct (s1 σ c (nI (m + 1))) q.2.1 = m + 1 := by
      rw [e]
      unfold ct
      rw [if_pos hc]
      exact cn_eq s1_eq hb
    rw [e2] at hi
    by_cases e3 : i = m
    · rw [e3]; exact hx q hq e
    · refine W q hq i ?_
      rw [e]
      unfold ct
      rw [if_pos hc, hn]
      omega
  · rw [ct_s1 e] at hi
    exact W q hq i hi
def vs3 : List Nat := [7, 13, 73]
theorem WV.of2 (W : WV σ) (c : CT σ') (g1 : ∀ k ∈ vs3, σ'.1 k = σ.1 k) (g2 : ∀ k ∈ vs2, σ'.2 k = σ.2 k) (r : WR σ') (l : WL σ') : WV σ' := by
  obtain ⟨w1, -, -, ⟨t1, t2, t3⟩, ⟨q1, q2, q3⟩, w6⟩ := W
  have cN : ∀ k ∈ vs3, cn σ' k = cn σ k := fun k hk => by unfold cn; rw [g1 k hk]
  have hcix : ∀ i, cix σ' i = cix σ i := fun i => by unfold cix; rw [g2 8 (by decide), g2 9 (by decide)]
  have hv : ∀ k c, vAt σ' k c = vAt σ k c := by
    intro k
    induction k with
    | zero => intro c; rfl
    | succ k ih => intro c; unfold vAt; rw [hcix, ih, g2 10 (by decide)]
  refine ⟨c, r, l, ⟨fun i hi => ?_, fun c hc => ?_, fun c hc => ?_⟩, ⟨?_, ?_, ?_⟩, fun t ht => ?_⟩
  · rw [cN 7 (by decide)] at hi
    rw [hcix, g2 8 (by decide), g2 9 (by decide), g2 10 (by decide)]
    exact t1 i hi
  · rw [cN 7 (by decide), hv, g2 11 (by decide)]; exact t2 c hc
  · rw [cN 7 (by decide), hv, g2 12 (by decide)]; exact t3 c hc
  · rw [g2 25 (by decide)]; exact q1
  · rw [g2 6 (by decide)]; exact q2
  · rw [g1 73 (by decide)]; exact q3
  · rw [cN 13 (by decide)] at ht
    have e := w6 t ht
    unfold TW CW CK cs cA cB at e ⊢
    rw [g2 14 (by decide), g2 15 (by decide), g2 16 (by decide), g2 17 (by decide), g2 18 (by decide), g2 19 (by decide), g2 20 (by decide), g2 21 (by decide), g2 22 (by decide), g2 24 (by decide)]
    exact e
theorem wts18 (W : WV σ) {x0 x1 x2 x3 : Int32} (hn : (cn σ 36) < 60) (b0 : bd x0 (cn σ 26)) (b1 : bd x1 16) (b2 : bd x2 (cn σ 13)) (b3 : bd x3 17) : WV (ts18 σ x0 x1 x2 x3) := by
  have W4 : WR (s2 (s2 (s2 (s2 σ 37 (cn σ 36) x0) 39 (cn σ 36) x1) 38 (cn σ 36) x2) 40 (cn σ 36) x3) := WR.w2_40 (σ := s2 (s2 (s2 σ 37 (cn σ 36) x0) 39 (cn σ 36) x1) 38 (cn σ 36) x2) (WR.w2_38 (σ := s2 (s2 σ 37 (cn σ 36) x0) 39 (cn σ 36) x1) (WR.w2_39 (σ := s2 σ 37 (cn σ 36) x0) (W.2.1.w2_37 b0) b1) b2) b3
  have v0 : (s2 (s2 (s2 (s2 σ 37 (cn σ 36) x0) 39 (cn σ 36) x1) 38 (cn σ 36) x2) 40 (cn σ 36) x3).2 37 (cn σ 36) = x0 := by simp [s2_ite]
  have v1 : (s2 (s2 (s2 (s2 σ 37 (cn σ 36) x0) 39 (cn σ 36) x1) 38 (cn σ 36) x2) 40 (cn σ 36) x3).2 39 (cn σ 36) = x1 := by simp [s2_ite]
  have v2 : (s2 (s2 (s2 (s2 σ 37 (cn σ 36) x0) 39 (cn σ 36) x1) 38 (cn σ 36) x2) 40 (cn σ 36) x3).2 38 (cn σ 36) = x2 := by simp [s2_ite]
  have v3 : (s2 (s2 (s2 (s2 σ 37 (cn σ 36) x0) 39 (cn σ 36) x1) 38 (cn σ 36) x2) 40 (cn σ 36) x3).2 40 (cn σ 36) = x3 := by simp [s2_ite]
  refine W.of2 (CT.cc (σ := s2 (s2 (s2 (s2 σ 37 (cn σ 36) x0) 39 (cn σ 36) x1) 38 (cn σ 36) x2) 40 (cn σ 36) x3) W.1 (fun q hq e => ?_) (by omega)) (fun k hk => ?_) (fun k hk => ?_) (WR.cc W4 rfl (show cn σ 36 + 1 < 2 ^ 31 by omega) (by decide) (by decide) (fun q hq e => ?_)) W.2.2.1
  · have t : ∀ q ∈ cmax, q.1 = 36 → q.2 = 60 := by decide
    rw [t q hq e]; omega
  · have t : ∀ k ∈ vs3, k ≠ 36 := by decide
    exact s1_ne (t k hk)
  · have t : ∀ k ∈ vs2, k ≠ 37 ∧ k ≠ 39 ∧ k ≠ 38 ∧ k ≠ 40 := by decide
    obtain ⟨t0, t1, t2, t3⟩ := t k hk
    show (s2 (s2 (s2 (s2 σ 37 (cn σ 36) x0) 39 (cn σ 36) x1) 38 (cn σ 36) x2) 40 (cn σ 36) x3).2 k = σ.2 k
    rw [s2_row t3, s2_row t2, s2_row t1, s2_row t0]
  · have t : ∀ q ∈ wR, q.2.1 = 36 → (q.1 = 37 ∧ q.2.2 = 26) ∨ (q.1 = 39 ∧ q.2.2 = 116) ∨ (q.1 = 38 ∧ q.2.2 = 13) ∨ (q.1 = 40 ∧ q.2.2 = 117) := by decide
    rcases t q hq e with ⟨e1, e2⟩ | ⟨e1, e2⟩ | ⟨e1, e2⟩ | ⟨e1, e2⟩
    · rw [e1, e2, v0]; exact b0
    · rw [e1, e2, v1]; exact b1
    · rw [e1, e2, v2]; exact b2
    · rw [e1, e2, v3]; exact b3
theorem rts18 (H : RS h σ) {x0 x1 x2 x3 : Int32} : RS (ta18 h σ x0 x1 x2 x3) σ := rsF (rsA (rsA (rsA (rsA H (by omega)) (by omega)) (by omega)) (by omega)) (by omega)
theorem wts19 (W : WV σ) {x0 x1 x2 x3 : Int32} (hn : (cn σ 41) < 80) (b0 : bd x0 (cn σ 26)) (b1 : bd x1 16) (b2 : bd x2 10000) (b3 : bd x3 10000) : WV (ts19 σ x0 x1 x2 x3) := by
  have W4 : WR (s2 (s2 (s2 (s2 σ 42 (cn σ 41) x0) 43 (cn σ 41) x1) 44 (cn σ 41) x2) 45 (cn σ 41) x3) := WR.w2_45 (σ := s2 (s2 (s2 σ 42 (cn σ 41) x0) 43 (cn σ 41) x1) 44 (cn σ 41) x2) (WR.w2_44 (σ := s2 (s2 σ 42 (cn σ 41) x0) 43 (cn σ 41) x1) (WR.w2_43 (σ := s2 σ 42 (cn σ 41) x0) (W.2.1.w2_42 b0) b1) b2) b3
  have v0 : (s2 (s2 (s2 (s2 σ 42 (cn σ 41) x0) 43 (cn σ 41) x1) 44 (cn σ 41) x2) 45 (cn σ 41) x3).2 42 (cn σ 41) = x0 := by simp [s2_ite]
  have v1 : (s2 (s2 (s2 (s2 σ 42 (cn σ 41) x0) 43 (cn σ 41) x1) 44 (cn σ 41) x2) 45 (cn σ 41) x3).2 43 (cn σ 41) = x1 := by simp [s2_ite]
  have v2 : (s2 (s2 (s2 (s2 σ 42 (cn σ 41) x0) 43 (cn σ 41) x1) 44 (cn σ 41) x2) 45 (cn σ 41) x3).2 44 (cn σ 41) = x2 := by simp [s2_ite]
  have v3 : (s2 (s2 (s2 (s2 σ 42 (cn σ 41) x0) 43 (cn σ 41) x1) 44 (cn σ 41) x2) 45 (cn σ 41) x3).2 45 (cn σ 41) = x3 := by simp [s2_ite]
  refine W.of2 (CT.cc (σ := s2 (s2 (s2 (s2 σ 42 (cn σ 41) x0) 43 (cn σ 41) x1) 44 (cn σ 41) x2) 45 (cn σ 41) x3) W.1 (fun q hq e => ?_) (by omega)) (fun k hk => ?_) (fun k hk => ?_) (WR.cc W4 rfl (show cn σ 41 + 1 < 2 ^ 31 by omega) (by decide) (by decide) (fun q hq e => ?_)) W.2.2.1
  · have t : ∀ q ∈ cmax, q.1 = 41 → q.2 = 80 := by decide
    rw [t q hq e]; omega
  · have t : ∀ k ∈ vs3, k ≠ 41 := by decide
    exact s1_ne (t k hk)
  · have t : ∀ k ∈ vs2, k ≠ 42 ∧ k ≠ 43 ∧ k ≠ 44 ∧ k ≠ 45 := by decide
    obtain ⟨t0, t1, t2, t3⟩ := t k hk
    show (s2 (s2 (s2 (s2 σ 42 (cn σ 41) x0) 43 (cn σ 41) x1) 44 (cn σ 41) x2) 45 (cn σ 41) x3).2 k = σ.2 k
    rw [s2_row t3, s2_row t2, s2_row t1, s2_row t0]
  · have t : ∀ q ∈ wR, q.2.1 = 41 → (q.1 = 42 ∧ q.2.2 = 26) ∨ (q.1 = 43 ∧ q.2.2 = 116) ∨ (q.1 = 44 ∧ q.2.2 = 10100) ∨ (q.1 = 45 ∧ q.2.2 = 10100) := by decide
    rcases t q hq e with ⟨e1, e2⟩ | ⟨e1, e2⟩ | ⟨e1, e2⟩ | ⟨e1, e2⟩
    · rw [e1, e2, v0]; exact b0
    · rw [e1, e2, v1]; exact b1
    · rw [e1, e2, v2]; exact b2
    · rw [e1, e2, v3]; exact b3
theorem rts19 (H : RS h σ) {x0 x1 x2 x3 : Int32} : RS (ta19 h σ x0 x1 x2 x3) σ := rsF (rsA (rsA (rsA (rsA H (by omega)) (by omega)) (by omega)) (by omega)) (by omega)
theorem wts20 (W : WV σ) {x0 x1 x2 x3 : Int32} (hn : (cn σ 49) < 200) (b0 : bd x0 (cn σ 26)) (b1 : bd x1 16) (b2 : bd x2 990000) (b3 : bd x3 4) : WV (ts20 σ x0 x1 x2 x3) := by
  have W4 : WR (s2 (s2 (s2 (s2 σ 50 (cn σ 49) x0) 51 (cn σ 49) x1) 52 (cn σ 49) x2) 53 (cn σ 49) x3) := WR.w2_53 (σ := s2 (s2 (s2 σ 50 (cn σ 49) x0) 51 (cn σ 49) x1) 52 (cn σ 49) x2) (WR.w2_52 (σ := s2 (s2 σ 50 (cn σ 49) x0) 51 (cn σ 49) x1) (WR.w2_51 (σ := s2 σ 50 (cn σ 49) x0) (W.2.1.w2_50 b0) b1) b2) b3
  have v0 : (s2 (s2 (s2 (s2 σ 50 (cn σ 49) x0) 51 (cn σ 49) x1) 52 (cn σ 49) x2) 53 (cn σ 49) x3).2 50 (cn σ 49) = x0 := by simp [s2_ite]
  have v1 : (s2 (s2 (s2 (s2 σ 50 (cn σ 49) x0) 51 (cn σ 49) x1) 52 (cn σ 49) x2) 53 (cn σ 49) x3).2 51 (cn σ 49) = x1 := by simp [s2_ite]
  have v2 : (s2 (s2 (s2 (s2 σ 50 (cn σ 49) x0) 51 (cn σ 49) x1) 52 (cn σ 49) x2) 53 (cn σ 49) x3).2 52 (cn σ 49) = x2 := by simp [s2_ite]
  have v3 : (s2 (s2 (s2 (s2 σ 50 (cn σ 49) x0) 51 (cn σ 49) x1) 52 (cn σ 49) x2) 53 (cn σ 49) x3).2 53 (cn σ 49) = x3 := by simp [s2_ite]
  refine W.of2 (CT.cc (σ := s2 (s2 (s2 (s2 σ 50 (cn σ 49) x0) 51 (cn σ 49) x1) 52 (cn σ 49) x2) 53 (cn σ 49) x3) W.1 (fun q hq e => ?_) (by omega)) (fun k hk => ?_) (fun k hk => ?_) (WR.cc W4 rfl (show cn σ 49 + 1 < 2 ^ 31 by omega) (by decide) (by decide) (fun q hq e => ?_)) W.2.2.1
  · have t : ∀ q ∈ cmax, q.1 = 49 → q.2 = 200 := by decide
    rw [t q hq e]; omega
  · have t : ∀ k ∈ vs3, k ≠ 49 := by decide
    exact s1_ne (t k hk)
  · have t : ∀ k ∈ vs2, k ≠ 50 ∧ k ≠ 51 ∧ k ≠ 52 ∧ k ≠ 53 := by decide
    obtain ⟨t0, t1, t2, t3⟩ := t k hk
    show (s2 (s2 (s2 (s2 σ 50 (cn σ 49) x0) 51 (cn σ 49) x1) 52 (cn σ 49) x2) 53 (cn σ 49) x3).2 k = σ.2 k
    rw [s2_row t3, s2_row t2, s2_row t1, s2_row t0]
  · have t : ∀ q ∈ wR, q.2.1 = 49 → (q.1 = 50 ∧ q.2.2 = 26) ∨ (q.1 = 51 ∧ q.2.2 = 116) ∨ (q.1 = 52 ∧ q.2.2 = 990100) ∨ (q.1 = 53 ∧ q.2.2 = 104) := by decide
    rcases t q hq e with ⟨e1, e2⟩ | ⟨e1, e2⟩ | ⟨e1, e2⟩ | ⟨e1, e2⟩
    · rw [e1, e2, v0]; exact b0
    · rw [e1, e2, v1]; exact b1
    · rw [e1, e2, v2]; exact b2
    · rw [e1, e2, v3]; exact b3
theorem rts20 (H : RS h σ) {x0 x1 x2 x3 : Int32} : RS (ta20 h σ x0 x1 x2 x3) σ := rsF (rsA (rsA (rsA (rsA H (by omega)) (by omega)) (by omega)) (by omega)) (by omega)
theorem wts21 (W : WV σ) {x0 x1 x2 x3 : Int32} (hn : (cn σ 55) < 20) (b0 : bd x0 (cn σ 26)) (b1 : bd x1 16) (b2 : bd x2 (cn σ 13)) (b3 : bd x3 3) : WV (ts21 σ x0 x1 x2 x3) := by
  have W4 : WR (s2 (s2 (s2 (s2 σ 56 (cn σ 55) x0) 57 (cn σ 55) x1) 58 (cn σ 55) x2) 59 (cn σ 55) x3) := WR.w2_59 (σ := s2 (s2 (s2 σ 56 (cn σ 55) x0) 57 (cn σ 55) x1) 58 (cn σ 55) x2) (WR.w2_58 (σ := s2 (s2 σ 56 (cn σ 55) x0) 57 (cn σ 55) x1) (WR.w2_57 (σ := s2 σ 56 (cn σ 55) x0) (W.2.1.w2_56 b0) b1) b2) b3
  have v0 : (s2 (s2 (s2 (s2 σ 56 (cn σ 55) x0) 57 (cn σ 55) x1) 58 (cn σ 55) x2) 59 (cn σ 55) x3).2 56 (cn σ 55) = x0 := by simp [s2_ite]
  have v1 : (s2 (s2 (s2 (s2 σ 56 (cn σ 55) x0) 57 (cn σ 55) x1) 58 (cn σ 55) x2) 59 (cn σ 55) x3).2 57 (cn σ 55) = x1 := by simp [s2_ite]
  have v2 : (s2 (s2 (s2 (s2 σ 56 (cn σ 55) x0) 57 (cn σ 55) x1) 58 (cn σ 55) x2) 59 (cn σ 55) x3).2 58 (cn σ 55) = x2 := by simp [s2_ite]
  have v3 : (s2 (s2 (s2 (s2 σ 56 (cn σ 55) x0) 57 (cn σ 55) x1) 58 (cn σ 55) x2) 59 (cn σ 55) x3).2 59 (cn σ 55) = x3 := by simp [s2_ite]
  refine W.of2 (CT.cc (σ := s2 (s2 (s2 (s2 σ 56 (cn σ 55) x0) 57 (cn σ 55) x1) 58 (cn σ 55) x2) 59 (cn σ 55) x3) W.1 (fun q hq e => ?_) (by omega)) (fun k hk => ?_) (fun k hk => ?_) (WR.cc W4 rfl (show cn σ 55 + 1 < 2 ^ 31 by omega) (by decide) (by decide) (fun q hq e => ?_)) W.2.2.1
  · have t : ∀ q ∈ cmax, q.1 = 55 → q.2 = 20 := by decide
    rw [t q hq e]; omega
  · have t : ∀ k ∈ vs3, k ≠ 55 := by decide
    exact s1_ne (t k hk)
  · have t : ∀ k ∈ vs2, k ≠ 56 ∧ k ≠ 57 ∧ k ≠ 58 ∧ k ≠ 59 := by decide
    obtain ⟨t0, t1, t2, t3⟩ := t k hk
    show (s2 (s2 (s2 (s2 σ 56 (cn σ 55) x0) 57 (cn σ 55) x1) 58 (cn σ 55) x2) 59 (cn σ 55) x3).2 k = σ.2 k
    rw [s2_row t3, s2_row t2, s2_row t1, s2_row t0]
  · have t : ∀ q ∈ wR, q.2.1 = 55 → (q.1 = 56 ∧ q.2.2 = 26) ∨ (q.1 = 57 ∧ q.2.2 = 116) ∨ (q.1 = 58 ∧ q.2.2 = 13) ∨ (q.1 = 59 ∧ q.2.2 = 103) := by decide
    rcases t q hq e with ⟨e1, e2⟩ | ⟨e1, e2⟩ | ⟨e1, e2⟩ | ⟨e1, e2⟩
    · rw [e1, e2, v0]; exact b0
    · rw [e1, e2, v1]; exact b1
    · rw [e1, e2, v2]; exact b2
    · rw [e1, e2, v3]; exact b3
theorem rts21 (H : RS h σ) {x0 x1 x2 x3 : Int32} : RS (ta21 h σ x0 x1 x2 x3) σ := rsF (rsA (rsA (rsA (rsA H (by omega)) (by omega)) (by omega)) (by omega)) (by omega)
def anyC (σ : SG) (f i : Nat) : Bool := (coverO σ f (nI i)).isSome
theorem pub_enroll {a b c : Int32} (I : INV L xs h σ tr u n) (hN : 2000 < N) : ∃ v h1 h2 σ' tr' u', f_X11_enroll h N 1 a b c = some (v, h1) ∧ f_X12_enroll h1 N 100 a b c = some (v, h2) ∧ (kd h1 9000 = 30 ∧ ln h1 9000 = L ∧ ai h1 9000 = xs) ∧ INV L xs h2 σ' tr' u' (n + 1) := by
  obtain ⟨C, H, W, X, S, U⟩ := id I
  have hG := W.1.g
  have hT := W.1.t
  have hF := W.1.f
  have hTl := W.1.tl
  have hC := W.1.c
  rcases okC a (n := cn σ 26) (by omega) with oa | ⟨oa, f, hf, rfl⟩
  · exact ⟨-1, h, h, σ, tr, u, by simp only [f_X11_enroll, obs, b10, b01, bm, if_true_, if_false_, eq_self, not_true_eq_false, not_false_eq_true, true_or, or_true, or_false, false_or, and_true, true_and, and_false, false_and, or_self, and_self, Bool.false_eq_true, ite_self, n25, n20, n24, n100, kk1 C, RS.kk H, c_isGauge C W.1, c_isTerm C W.1, c_isFarm C W.1, c_isSeason, c_isPlace, r_isGauge H W.1, r_isTerm H W.1, r_isFarm H W.1, r_isSeason, r_isWeek, r_isPlace, r_isSheet, ci1, ri1, ci2, ri2, ci3, ri3, ci4, ri4, ci5, ri5, ci11, ri11, ci16, ri16, ci98, ri98, ci99, ri99, ci198, ri198, ci9999, ri9999, oa], by simp only [f_X12_enroll, obs, b10, b01, bm, if_true_, if_false_, eq_self, not_true_eq_false, not_false_eq_true, true_or, or_true, or_false, false_or, and_true, true_and, and_false, false_and, or_self, and_self, Bool.false_eq_true, ite_self, n25, n20, n24, n100, kk1 C, RS.kk H, c_isGauge C W.1, c_isTerm C W.1, c_isFarm C W.1, c_isSeason, c_isPlace, r_isGauge H W.1, r_isTerm H W.1, r_isFarm H W.1, r_isSeason, r_isWeek, r_isPlace, r_isSheet, ci1, ri1, ci2, ri2, ci3, ri3, ci4, ri4, ci5, ri5, ci11, ri11, ci16, ri16, ci98, ri98, ci99, ri99, ci198, ri198, ci9999, ri9999, oa], I.2.2.2.2.1, I.up (by omega)⟩
  rcases okC b (n := cn σ 13) (by omega) with ob | ⟨ob, t, ht, rfl⟩
  · exact ⟨-1, h, h, σ, tr, u, by simp only [f_X11_enroll, obs, b10, b01, bm, if_true_, if_false_, eq_self, not_true_eq_false, not_false_eq_true, true_or, or_true, or_false, false_or, and_true, true_and, and_false, false_and, or_self, and_self, Bool.false_eq_true, ite_self, n25, n20, n24, n100, kk1 C, RS.kk H, c_isGauge C W.1, c_isTerm C W.1, c_isFarm C W.1, c_isSeason, c_isPlace, r_isGauge H W.1, r_isTerm H W.1, r_isFarm H W.1, r_isSeason, r_isWeek, r_isPlace, r_isSheet, ci1, ri1, ci2, ri2, ci3, ri3, ci4, ri4, ci5, ri5, ci11, ri11, ci16, ri16, ci98, ri98, ci99, ri99, ci198, ri198, ci9999, ri9999, oa, ob], by simp only [f_X12_enroll, obs, b10, b01, bm, if_true_, if_false_, eq_self, not_true_eq_false, not_false_eq_true, true_or, or_true, or_false, false_or, and_true, true_and, and_false, false_and, or_self, and_self, Bool.false_eq_true, ite_self, n25, n20, n24, n100, kk1 C, RS.kk H, c_isGauge C W.1, c_isTerm C W.1, c_isFarm C W.1, c_isSeason, c_isPlace, r_isGauge H W.1, r_isTerm H W.1, r_isFarm H W.1, r_isSeason, r_isWeek, r_isPlace, r_isSheet, ci1, ri1, ci2, ri2, ci3, ri3, ci4, ri4, ci5, ri5, ci11, ri11, ci16, ri16, ci98, ri98, ci99, ri99, ci198, ri198, ci9999, ri9999, oa, ob], I.2.2.2.2.1, I.up (by omega)⟩
  rcases okC c (n := 16) (by decide) with oc | ⟨oc, s, hs, rfl⟩
  · exact ⟨-1, h, h, σ, tr, u, by simp only [f_X11_enroll, obs, b10, b01, bm, if_true_, if_false_, eq_self, not_true_eq_false, not_false_eq_true, true_or, or_true, or_false, false_or, and_true, true_and, and_false, false_and, or_self, and_self, Bool.false_eq_true, ite_self, n25, n20, n24, n100, kk1 C, RS.kk H, c_isGauge C W.1, c_isTerm C W.1, c_isFarm C W.1, c_isSeason, c_isPlace, r_isGauge H W.1, r_isTerm H W.1, r_isFarm H W.1, r_isSeason, r_isWeek, r_isPlace, r_isSheet, ci1, ri1, ci2, ri2, ci3, ri3, ci4, ri4, ci5, ri5, ci11, ri11, ci16, ri16, ci98, ri98, ci99, ri99, ci198, ri198, ci9999, ri9999, oa, ob, oc], by simp only [f_X12_enroll, obs, b10, b01, bm, if_true_, if_false_, eq_self, not_true_eq_false, not_false_eq_true, true_or, or_true, or_false, false_or, and_true, true_and, and_false, false_and, or_self, and_self, Bool.false_eq_true, ite_self, n25, n20, n24, n100, kk1 C, RS.kk H, c_isGauge C W.1, c_isTerm C W.1, c_isFarm C W.1, c_isSeason, c_isPlace, r_isGauge H W.1, r_isTerm H W.1, r_isFarm H W.1, r_isSeason, r_isWeek, r_isPlace, r_isSheet, ci1, ri1, ci2, ri2, ci3, ri3, ci4, ri4, ci5, ri5, ci11, ri11, ci16, ri16, ci98, ri98, ci99, ri99, ci198, ri198, ci9999, ri9999, oa, ob, oc], I.2.2.2.2.1, I.up (by omega)⟩
  have k1 : ∀ (R : Option (Int32 × AH)), (∀ n, f_X11_enroll_b28 N (n + 1) h 1 (nI f) (nI t) (nI s) (nI 16) = R) → f_X11_enroll_b28 N N h 1 (nI f) (nI t) (nI s) (nI s) = (match fnd (fun i => anyC σ f i = true) s (16 - s) with
      | some _ => some (-3, h)
      | none => R) := by
    intro R hR
    refine lpF (fun n i => f_X11_enroll_b28 N n h 1 (nI f) (nI t) (nI s) (nI i)) (fun i => anyC σ f i = true) 16 (fun o => match o with
      | some _ => some (-3, h)
      | none => R) hR ?_ (m := 16 - s) (by omega) (by omega)
    intro n i hi
    have hn : ¬ 16 ≤ i := by omega
    rcases e : coverO σ f (nI i) with _ | cc
    · simp (disch := omega) only [f_X11_enroll_b28, f_X11_enroll_b28_body, obs, b10, b01, bm, if_true_, if_false_, eq_self, not_true_eq_false, not_false_eq_true, true_or, or_true, or_false, false_or, and_true, true_and, and_false, false_and, or_self, and_self, Bool.false_eq_true, ite_self, n25, n20, n24, n100, lt16, nI_leI, hn, c_coverOf C W.1, e, oI_n, anyC, Option.isSome_none, nI_1]
    · have := coverO_lt e
      simp (disch := omega) only [f_X11_enroll_b28, f_X11_enroll_b28_body, obs, b10, b01, bm, if_true_, if_false_, eq_self, not_true_eq_false, not_false_eq_true, true_or, or_true, or_false, false_or, and_true, true_and, and_false, false_and, or_self, and_self, Bool.false_eq_true, ite_self, n25, n20, n24, n100, lt16, nI_leI, hn, c_coverOf C W.1, e, oI_s, nI_negF, anyC, Option.isSome_some, nI_1]
  have k2 : ∀ (h : AH), RS h σ → ∀ (R : Option (Int32 × AH)), (∀ n, f_X12_enroll_b28 N (n + 1) h 100 (nI f) (nI t) (nI s) (nI 16) = R) → f_X12_enroll_b28 N N h 100 (nI f) (nI t) (nI s) (nI s) = (match fnd (fun i => anyC σ f i = true) s (16 - s) with
      | some _ => some (-3, h)
      | none => R) := by
    intro h H R hR
    refine lpF (fun n i => f_X12_enroll_b28 N n h 100 (nI f) (nI t) (nI s) (nI i)) (fun i => anyC σ f i = true) 16 (fun o => match o with
      | some _ => some (-3, h)
      | none => R) hR ?_ (m := 16 - s) (by omega) (by omega)
    intro n i hi
    have hn : ¬ 16 ≤ i := by omega
    rcases e : coverO σ f (nI i) with _ | cc
    · simp (disch := omega) only [f_X12_enroll_b28, f_X12_enroll_b28_body, obs, b10, b01, bm, if_true_, if_false_, eq_self, not_true_eq_false, not_false_eq_true, true_or, or_true, or_false, false_or, and_true, true_and, and_false, false_and, or_self, and_self, Bool.false_eq_true, ite_self, n25, n20, n24, n100, lt16, nI_leI, hn, r_coverOf H W.1, e, oI_n, anyC, Option.isSome_none, nI_1]
    · have := coverO_lt e
      simp (disch := omega) only [f_X12_enroll_b28, f_X12_enroll_b28_body, obs, b10, b01, bm, if_true_, if_false_, eq_self, not_true_eq_false, not_false_eq_true, true_or, or_true, or_false, false_or, and_true, true_and, and_false, false_and, or_self, and_self, Bool.false_eq_true, ite_self, n25, n20, n24, n100, lt16, nI_leI, hn, r_coverOf H W.1, e, oI_s, nI_negF, anyC, Option.isSome_some, nI_1]
  rcases e : fnd (fun i => anyC σ f i = true) s (16 - s) with _ | i0
  · by_cases q : cn σ 36 = 60
    · have r1 := k1 (some (-4, h)) (fun n => by simp (disch := omega) only [f_X11_enroll_b28, f_X11_enroll_b28_body, obs, b10, b01, bm, if_true_, if_false_, eq_self, not_true_eq_false, not_false_eq_true, true_or, or_true, or_false, false_or, and_true, true_and, and_false, false_and, or_self, and_self, Bool.false_eq_true, ite_self, n25, n20, n24, n100, lt16, nI_leI, Nat.le_refl, kr1_8 C, kfull18 C W.1, q])
      have r2 := k2 h H (some (-4, h)) (fun n => by simp (disch := omega) only [f_X12_enroll_b28, f_X12_enroll_b28_body, obs, b10, b01, bm, if_true_, if_false_, eq_self, not_true_eq_false, not_false_eq_true, true_or, or_true, or_false, false_or, and_true, true_and, and_false, false_and, or_self, and_self, Bool.false_eq_true, ite_self, n25, n20, n24, n100, lt16, nI_leI, Nat.le_refl, RS.gi H, hC.1, q, lt60])
      rw [e] at r1 r2
      exact ⟨-4, h, h, σ, tr, u, by simp only [f_X11_enroll, obs, b10, b01, bm, if_true_, if_false_, eq_self, not_true_eq_false, not_false_eq_true, true_or, or_true, or_false, false_or, and_true, true_and, and_false, false_and, or_self, and_self, Bool.false_eq_true, ite_self, n25, n20, n24, n100, kk1 C, RS.kk H, c_isGauge C W.1, c_isTerm C W.1, c_isFarm C W.1, c_isSeason, c_isPlace, r_isGauge H W.1, r_isTerm H W.1, r_isFarm H W.1, r_isSeason, r_isWeek, r_isPlace, r_isSheet, ci1, ri1, ci2, ri2, ci3, ri3, ci4, ri4, ci5, ri5, ci11, ri11, ci16, ri16, ci98, ri98, ci99, ri99, ci198, ri198, ci9999, ri9999, oa, ob, oc, r1], by simp only [f_X12_enroll, obs, b10, b01, bm, if_true_, if_false_, eq_self, not_true_eq_false, not_false_eq_true, true_or, or_true, or_false, false_or, and_true, true_and, and_false, false_and, or_self, and_self, Bool.false_eq_true, ite_self, n25, n20, n24, n100, kk1 C, RS.kk H, c_isGauge C W.1, c_isTerm C W.1, c_isFarm C W.1, c_isSeason, c_isPlace, r_isGauge H W.1, r_isTerm H W.1, r_isFarm H W.1, r_isSeason, r_isWeek, r_isPlace, r_isSheet, ci1, ri1, ci2, ri2, ci3, ri3, ci4, ri4, ci5, ri5, ci11, ri11, ci16, ri16, ci98, ri98, ci99, ri99, ci198, ri198, ci9999, ri9999, oa, ob, oc, r2], S, I.up (by omega)⟩
    · have hn : cn σ 36 < 60 := by omega
      obtain ⟨a1, C1⟩ := kadd18 C W.1 (x0 := nI f) (x1 := nI s) (x2 := nI t) (x3 := 16) hn
      have r1 := k1 (some (1, ta18 h σ (nI f) (nI s) (nI t) 16)) (fun n => by simp (disch := omega) only [f_X11_enroll_b28, f_X11_enroll_b28_body, obs, b10, b01, bm, if_true_, if_false_, eq_self, not_true_eq_false, not_false_eq_true, true_or, or_true, or_false, false_or, and_true, true_and, and_false, false_and, or_self, and_self, Bool.false_eq_true, ite_self, n25, n20, n24, n100, lt16, nI_leI, Nat.le_refl, kr1_8 C, kfull18 C W.1, q]; rw [← lt16, a1, obs])
      have H1 : RS (ta18 h σ (nI f) (nI s) (nI t) 16) σ := rts18 H
      have w1 := rw37 H1 (n := cn σ 36) (x := nI f) hn
      have w2 := rw38 w1.2 (n := cn σ 36) (x := nI t) hn
      have w3 := rw39 w2.2 (n := cn σ 36) (x := nI s) hn
      have w4 := rw40 w3.2 (n := cn σ 36) (x := 16) hn
      have w5 := w4.2.fi 36 (nI (cn σ 36 + 1))
      have hq : ¬ nI (cn σ 36) = nI 60 := by rw [nI_eq (by omega) (by decide)]; exact q
      have cc1 : (s2 σ 37 (cn σ 36) (nI f)).1 36 = nI (cn σ 36) := hC.1
      have cc2 : (s2 (s2 σ 37 (cn σ 36) (nI f)) 38 (cn σ 36) (nI t)).1 36 = nI (cn σ 36) := hC.1
      have cc3 : (s2 (s2 (s2 σ 37 (cn σ 36) (nI f)) 38 (cn σ 36) (nI t)) 39 (cn σ 36) (nI s)).1 36 = nI (cn σ 36) := hC.1
      have cc4 : (s2 (s2 (s2 (s2 σ 37 (cn σ 36) (nI f)) 38 (cn σ 36) (nI t)) 39 (cn σ 36) (nI s)) 40 (cn σ 36) 16).1 36 = nI (cn σ 36) := hC.1
      have r2 := k2 _ H1 (some (1, sfi (sai (sai (sai (sai (ta18 h σ (nI f) (nI s) (nI t) 16) 137 (cn σ 36) (nI f)) 138 (cn σ 36) (nI t)) 139 (cn σ 36) (nI s)) 140 (cn σ 36) 16) 100 36 (nI (cn σ 36 + 1)))) (fun n => by
        show f_X12_enroll_b28_body N _ _ 100 (nI f) (nI t) (nI s) (nI 16) = _
        unfold f_X12_enroll_b28_body
        rw [if_pos (by decide), RS.gi H1, obs, hC.1, if_neg (by rw [lt60]; exact hq), rg37 H1, obs, obs, w1.1, obs, rg38 w1.2, obs, RS.gi w1.2, obs, cc1, w2.1, obs, rg39 w2.2, obs, RS.gi w2.2, obs, cc2, w3.1, obs, rg40 w3.2, obs, RS.gi w3.2, obs, cc3, w4.1, obs, RS.gi w4.2, obs, cc4, nI_1, w4.2.pi, obs])
      rw [e] at r1 r2
      have hσ : s1 (s2 (s2 (s2 (s2 σ 37 (cn σ 36) (nI f)) 38 (cn σ 36) (nI t)) 39 (cn σ 36) (nI s)) 40 (cn σ 36) 16) 36 (nI (cn σ 36 + 1)) = ts18 σ (nI f) (nI s) (nI t) 16 := by
        unfold ts18
        rw [s2_comm (σ := s2 σ 37 (cn σ 36) (nI f)) (k := 38) (k' := 39) (by decide)]
      rw [hσ] at w5
      have S1 : kd (ta18 h σ (nI f) (nI s) (nI t) 16) 9000 = 30 ∧ ln (ta18 h σ (nI f) (nI s) (nI t) 16) 9000 = L ∧ ai (ta18 h σ (nI f) (nI s) (nI t) 16) 9000 = xs := by
        refine ⟨S.1, S.2.1, ?_⟩
        show ai (sai (sai (sai (sai h 34 (4 * (cn σ 36)) (nI f)) 34 (4 * (cn σ 36) + 1) (nI s)) 34 (4 * (cn σ 36) + 2) (nI t)) 34 (4 * (cn σ 36) + 3) 16) 9000 = xs
        rw [ai_sai_ne (by omega), ai_sai_ne (by omega), ai_sai_ne (by omega), ai_sai_ne (by omega)]
        exact S.2.2
      have X1 := X.up (m := n + 1) (by omega)
      have X' : WX (ts18 σ (nI f) (nI s) (nI t) 16) (n + 1) := X1.of (fun k hk => by
          have t : ∀ k ∈ xs1, k ≠ 36 := by decide
          exact s1_ne (t k hk)) (fun k hk => by
          have tq : ∀ k ∈ xs2, k ≠ 37 ∧ k ≠ 39 ∧ k ≠ 38 ∧ k ≠ 40 := by decide
          obtain ⟨t0, t1, t2, t3⟩ := tq k hk
          show (s2 (s2 (s2 (s2 σ 37 (cn σ 36) (nI f)) 39 (cn σ 36) (nI s)) 38 (cn σ 36) (nI t)) 40 (cn σ 36) 16).2 k = σ.2 k
          rw [s2_row t3, s2_row t2, s2_row t1, s2_row t0])
      refine ⟨1, _, _, _, tr, u, ?_, ?_, S1, I.st C1 ((((FRc.a (r := 137) (by omega) (by omega)).trans (FRc.a (r := 138) (by omega) (by omega))).trans ((FRc.a (r := 139) (by omega) (by omega)).trans (FRc.a (r := 140) (by omega) (by omega)))).trans FRc.f) w5 (wts18 W hn ⟨f, hf, rfl⟩ ⟨s, hs, rfl⟩ ⟨t, ht, rfl⟩ ⟨16, by omega, lt16⟩) X' S1 (by omega)⟩
      · simp only [f_X11_enroll, obs, b10, b01, bm, if_true_, if_false_, eq_self, not_true_eq_false, not_false_eq_true, true_or, or_true, or_false, false_or, and_true, true_and, and_false, false_and, or_self, and_self, Bool.false_eq_true, ite_self, n25, n20, n24, n100, kk1 C, RS.kk H, c_isGauge C W.1, c_isTerm C W.1, c_isFarm C W.1, c_isSeason, c_isPlace, r_isGauge H W.1, r_isTerm H W.1, r_isFarm H W.1, r_isSeason, r_isWeek, r_isPlace, r_isSheet, ci1, ri1, ci2, ri2, ci3, ri3, ci4, ri4, ci5, ri5, ci11, ri11, ci16, ri16, ci98, ri98, ci99, ri99, ci198, ri198, ci9999, ri9999, oa, ob, oc, r1]
      · simp only [f_X12_enroll, obs, b10, b01, bm, if_true_, if_false_, eq_self, not_true_eq_false, not_false_eq_true, true_or, or_true, or_false, false_or, and_true, true_and, and_false, false_and, or_self, and_self, Bool.false_eq_true, ite_self, n25, n20, n24, n100, RS.kk H1, r_isFarm H1 W.1, r_isTerm H1 W.1, r_isSeason, oa, ob, oc, r2]
  · have r1 := k1 (f_X11_enroll_b28 N 1 h 1 (nI f) (nI t) (nI s) (nI 16)) (fun n => rfl)
    have r2 := k2 h H (f_X12_enroll_b28 N 1 h 100 (nI f) (nI t) (nI s) (nI 16)) (fun n => rfl)
    rw [e] at r1 r2
    exact ⟨-3, h, h, σ, tr, u, by simp only [f_X11_enroll, obs, b10, b01, bm, if_true_, if_false_, eq_self, not_true_eq_false, not_false_eq_true, true_or, or_true, or_false, false_or, and_true, true_and, and_false, false_and, or_self, and_self, Bool.false_eq_true, ite_self, n25, n20, n24, n100, kk1 C, RS.kk H, c_isGauge C W.1, c_isTerm C W.1, c_isFarm C W.1, c_isSeason, c_isPlace, r_isGauge H W.1, r_isTerm H W.1, r_isFarm H W.1, r_isSeason, r_isWeek, r_isPlace, r_isSheet, ci1, ri1, ci2, ri2, ci3, ri3, ci4, ri4, ci5, ri5, ci11, ri11, ci16, ri16, ci98, ri98, ci99, ri99, ci198, ri198, ci9999, ri9999, oa, ob, oc, r1], by simp only [f_X12_enroll, obs, b10, b01, bm, if_true_, if_false_, eq_self, not_true_eq_false, not_false_eq_true, true_or, or_true, or_false, false_or, and_true, true_and, and_false, false_and, or_self, and_self, Bool.false_eq_true, ite_self, n25, n20, n24, n100, kk1 C, RS.kk H, c_isGauge C W.1, c_isTerm C W.1, c_isFarm C W.1, c_isSeason, c_isPlace, r_isGauge H W.1, r_isTerm H W.1, r_isFarm H W.1, r_isSeason, r_isWeek, r_isPlace, r_isSheet, ci1, ri1, ci2, ri2, ci3, ri3, ci4, ri4, ci5, ri5, ci11, ri11, ci16, ri16, ci98, ri98, ci99, ri99, ci198, ri198, ci9999, ri9999, oa, ob, oc, r2], S, I.up (by omega)⟩
end
