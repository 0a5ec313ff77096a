/-! ===== public: small writes ===== -/
section
variable {L N : Nat} {xs : Nat → Int32} {h h' : AH} {σ σ' : SG} {tr : Nat → Nat} {u n : Nat}

def xs1 : List Nat := [26, 54, 55, 64]
def xs2 : List Nat := [17, 18, 31, 32, 33, 34, 60, 62, 66, 67, 71]
theorem WX.of (X : WX σ n) (g1 : ∀ k ∈ xs1, σ'.1 k = σ.1 k) (g2 : ∀ k ∈ xs2, σ'.2 k = σ.2 k) : WX σ' n := by
  unfold WX WZ at X ⊢
  have c26 : cn σ' 26 = cn σ 26 := by unfold cn; rw [g1 26 (by decide)]
  have c55 : cn σ' 55 = cn σ 55 := by unfold cn; rw [g1 55 (by decide)]
  rw [c26, c55, g1 54 (by decide), g1 64 (by decide), g2 31 (by decide), g2 32 (by decide), g2 33 (by decide), g2 17 (by decide), g2 18 (by decide), g2 34 (by decide), g2 60 (by decide), g2 62 (by decide), g2 66 (by decide), g2 67 (by decide), g2 71 (by decide)]
  exact X
theorem xs2_row {k j : Nat} {x : Int32} (hk : k ∉ xs2) : ∀ a ∈ xs2, (s2 σ k j x).2 a = σ.2 a := fun a ha => s2_row (fun e => hk (e ▸ ha))
theorem xs1_s1 {k : Nat} {x : Int32} (hk : k ∉ xs1) : ∀ a ∈ xs1, (s1 σ k x).1 a = σ.1 a := fun a ha => s1_ne (fun e => hk (e ▸ ha))
/-- the reference follows: its world, its cells alone -/
theorem INV.st (I : INV L xs h σ tr u n) {h1 h2 : AH} {tr' : Nat → Nat} {u' : Nat} (C1 : CS h1 σ' tr' u') (F : FRc h1 h2) (H2 : RS h2 σ') (W' : WV σ') (X' : WX σ' (n + 1)) (S1 : kd h1 9000 = 30 ∧ ln h1 9000 = L ∧ ai h1 9000 = xs) (hu : u' ≤ n + 1) : INV L xs h2 σ' tr' u' (n + 1) := by
  refine ⟨C1.frc F, H2, W', X', ?_, hu⟩
  obtain ⟨e1, e2, e4, e5, e6⟩ := F
  rw [e1, e2, (e6 9000 (by omega)).2]
  exact S1
theorem ct_s1 {k c : Nat} {x : Int32} (e : c ≠ k) : ct (s1 σ k x) c = ct σ c := by
  unfold ct cn
  rw [s1_ne e]
theorem WR.w1 (W : WR σ) {k : Nat} {x : Int32} (hk : ∀ q ∈ wR, q.2.1 ≠ k ∧ q.2.2 ≠ k) : WR (s1 σ k x) := by
  intro q hq i hi
  rw [ct_s1 (hk q hq).1] at hi
  rw [ct_s1 (hk q hq).2]
  exact W q hq i hi
theorem DD.wA1 {r k m j : Nat} {x : Int32} (D : DD h σ) (W : CT σ) (hq : (r, 1, 0, k, m) ∈ dA) (hj : j < m) : DD (sai h r j x) (s2 σ k j x) := by
  have := D.wA W.B (x := x) hq hj
  rwa [Nat.one_mul, Nat.add_zero] at this
theorem pub_plant {a b : Int32} (I : INV L xs h σ tr u n) : ∃ v h1 h2 σ' tr' u', f_X11_plant h 1 a b = some (v, h1) ∧ f_X12_plant h1 100 a b = some (v, h2) ∧ (kd h1 9000 = 30 ∧ ln h1 9000 = L ∧ ai h1 9000 = xs) ∧ INV L xs h2 σ' tr' u' (n + 1) := by
  obtain ⟨C, H, W, X, S, U⟩ := id I
  have hG := W.1.g
  have hT := W.1.t
  have hF := W.1.f
  have hTl := W.1.tl
  rcases okC a (n := 4) (by decide) with oa | ⟨oa, d, hd, rfl⟩
  · exact ⟨-1, h, h, σ, tr, u, by simp only [f_X11_plant, obs, b10, b01, bm, if_true_, if_false_, eq_self, not_true_eq_false, not_false_eq_true, true_or, or_true, or_false, false_or, and_true, true_and, and_false, false_and, or_self, and_self, Bool.false_eq_true, ite_self, n25, n20, n24, n100, kk1 C, RS.kk H, c_isGauge C W.1, c_isTerm C W.1, c_isFarm C W.1, c_isSeason, c_isPlace, r_isGauge H W.1, r_isTerm H W.1, r_isFarm H W.1, r_isSeason, r_isWeek, r_isPlace, r_isSheet, ci1, ri1, ci2, ri2, ci3, ri3, ci4, ri4, ci5, ri5, ci11, ri11, ci16, ri16, ci98, ri98, ci99, ri99, ci198, ri198, ci9999, ri9999, oa], by simp only [f_X12_plant, obs, b10, b01, bm, if_true_, if_false_, eq_self, not_true_eq_false, not_false_eq_true, true_or, or_true, or_false, false_or, and_true, true_and, and_false, false_and, or_self, and_self, Bool.false_eq_true, ite_self, n25, n20, n24, n100, kk1 C, RS.kk H, c_isGauge C W.1, c_isTerm C W.1, c_isFarm C W.1, c_isSeason, c_isPlace, r_isGauge H W.1, r_isTerm H W.1, r_isFarm H W.1, r_isSeason, r_isWeek, r_isPlace, r_isSheet, ci1, ri1, ci2, ri2, ci3, ri3, ci4, ri4, ci5, ri5, ci11, ri11, ci16, ri16, ci98, ri98, ci99, ri99, ci198, ri198, ci9999, ri9999, oa], I.2.2.2.2.1, I.up (by omega)⟩
  rcases okC b (n := 6) (by decide) with ob | ⟨ob, p, hp, rfl⟩
  · exact ⟨-2, h, h, σ, tr, u, by simp only [f_X11_plant, obs, b10, b01, bm, if_true_, if_false_, eq_self, not_true_eq_false, not_false_eq_true, true_or, or_true, or_false, false_or, and_true, true_and, and_false, false_and, or_self, and_self, Bool.false_eq_true, ite_self, n25, n20, n24, n100, kk1 C, RS.kk H, c_isGauge C W.1, c_isTerm C W.1, c_isFarm C W.1, c_isSeason, c_isPlace, r_isGauge H W.1, r_isTerm H W.1, r_isFarm H W.1, r_isSeason, r_isWeek, r_isPlace, r_isSheet, ci1, ri1, ci2, ri2, ci3, ri3, ci4, ri4, ci5, ri5, ci11, ri11, ci16, ri16, ci98, ri98, ci99, ri99, ci198, ri198, ci9999, ri9999, oa, ob], by simp only [f_X12_plant, obs, b10, b01, bm, if_true_, if_false_, eq_self, not_true_eq_false, not_false_eq_true, true_or, or_true, or_false, false_or, and_true, true_and, and_false, false_and, or_self, and_self, Bool.false_eq_true, ite_self, n25, n20, n24, n100, kk1 C, RS.kk H, c_isGauge C W.1, c_isTerm C W.1, c_isFarm C W.1, c_isSeason, c_isPlace, r_isGauge H W.1, r_isTerm H W.1, r_isFarm H W.1, r_isSeason, r_isWeek, r_isPlace, r_isSheet, ci1, ri1, ci2, ri2, ci3, ri3, ci4, ri4, ci5, ri5, ci11, ri11, ci16, ri16, ci98, ri98, ci99, ri99, ci198, ri198, ci9999, ri9999, oa, ob], I.2.2.2.2.1, I.up (by omega)⟩
  have C1 : CS (sai h 17 d (nI p)) (s2 σ 35 d (nI p)) tr u := C.of rfl rfl rfl rfl (C.d.wA1 W.1 (r := 17) (m := 4) (by decide) hd) (fun r hr => ai_sai_ne (by omega)) (fun j hj => ⟨rfl, rfl⟩) (fun _ _ => rfl) (fun _ _ => rfl) (ks2_row (by decide)) W.1
  have H1 : RS (sai h 17 d (nI p)) σ := RSof H rfl rfl rfl rfl (fun k hk => ai_sai_ne (by omega))
  have hw := rw35 H1 (n := d) (x := nI p) hd
  have S1 : kd (sai h 17 d (nI p)) 9000 = 30 ∧ ln (sai h 17 d (nI p)) 9000 = L ∧ ai (sai h 17 d (nI p)) 9000 = xs := by rw [ai_sai_ne (by omega)]; exact S
  refine ⟨σ.2 35 d, sai h 17 d (nI p), sai (sai h 17 d (nI p)) 135 d (nI p), s2 σ 35 d (nI p), tr, u, ?_, ?_, S1, I.st C1 (FRc.a (by omega) (by omega)) hw.2 (W.of (fun _ _ => rfl) (vs2_row (by decide)) (W.2.1.w2_35 ⟨p, hp, rfl⟩) W.2.2.1) ((X.up (by omega)).of (fun _ _ => rfl) (xs2_row (by decide))) S1 (by omega)⟩
  · simp (disch := omega) only [f_X11_plant, obs, b10, b01, bm, if_true_, if_false_, eq_self, not_true_eq_false, not_false_eq_true, true_or, or_true, or_false, false_or, and_true, true_and, and_false, false_and, or_self, and_self, Bool.false_eq_true, ite_self, n25, n20, n24, n100, kk1 C, RS.kk H, c_isGauge C W.1, c_isTerm C W.1, c_isFarm C W.1, c_isSeason, c_isPlace, r_isGauge H W.1, r_isTerm H W.1, r_isFarm H W.1, r_isSeason, r_isWeek, r_isPlace, r_isSheet, ci1, ri1, ci2, ri2, ci3, ri3, ci4, ri4, ci5, ri5, ci11, ri11, ci16, ri16, ci98, ri98, ci99, ri99, ci198, ri198, ci9999, ri9999, oa, ob, kr1_7 C, kx17 C, ks17 C]
  · simp (disch := omega) only [f_X12_plant, obs, b10, b01, bm, if_true_, if_false_, eq_self, not_true_eq_false, not_false_eq_true, true_or, or_true, or_false, false_or, and_true, true_and, and_false, false_and, or_self, and_self, Bool.false_eq_true, ite_self, n25, n20, n24, n100, RS.kk H1, ri3, ri5, oa, ob, rg35 H1, ra35 H1, hw.1]
theorem pub_lots {a : Int32} (I : INV L xs h σ tr u n) : ∃ v h1 h2 σ' tr' u', f_X11_lots h 1 a = some (v, h1) ∧ f_X12_lots h1 100 a = some (v, h2) ∧ (kd h1 9000 = 30 ∧ ln h1 9000 = L ∧ ai h1 9000 = xs) ∧ INV L xs h2 σ' tr' u' (n + 1) := by
  obtain ⟨C, H, W, X, S, U⟩ := id I
  have hG := W.1.g
  have hT := W.1.t
  have hF := W.1.f
  have hTl := W.1.tl
  have x1 : xpi h 1 12 14 a = some (sfi h 1 14 a) := by unfold xpi; rw [if_pos (kk1 C)]
  have C1 : CS (sfi h 1 14 a) (s1 σ 61 a) tr u := C.of rfl rfl rfl rfl (C.d.wI W.1.F (r := 1) (f := 14) (k := 61) (by decide) (by decide)) (fun _ _ => rfl) (fun j hj => ⟨by rw [fi_sfi_ne (by omega)], fi_sfi_ne (by omega)⟩) (fun r hr => fi_sfi_ne (by omega)) (ks1_s1 (by decide)) (fun _ _ => rfl) W.1
  have H1 : RS (sfi h 1 14 a) σ := RSof H rfl rfl rfl (fi_sfi_ne (by omega)) (fun k hk => rfl)
  refine ⟨1, sfi h 1 14 a, sfi (sfi h 1 14 a) 100 61 a, s1 σ 61 a, tr, u, ?_, ?_, S, I.st C1 FRc.f (H1.fi 61 a) (W.of (vs1_s1 (by decide)) (fun _ _ => rfl) (W.2.1.w1 (by decide)) W.2.2.1) ((X.up (by omega)).of (xs1_s1 (by decide)) (fun _ _ => rfl)) S (by omega)⟩
  · simp only [f_X11_lots, obs, b10, b01, bm, if_true_, if_false_, eq_self, not_true_eq_false, not_false_eq_true, true_or, or_true, or_false, false_or, and_true, true_and, and_false, false_and, or_self, and_self, Bool.false_eq_true, ite_self, n25, n20, n24, n100, kk1 C, x1]
  · simp only [f_X12_lots, obs, b10, b01, bm, if_true_, if_false_, eq_self, not_true_eq_false, not_false_eq_true, true_or, or_true, or_false, false_or, and_true, true_and, and_false, false_and, or_self, and_self, Bool.false_eq_true, ite_self, n25, n20, n24, n100, RS.kk H1, H1.pi]
theorem in_m1 {h : AH} {v : Int32} {m : Nat} {hi : Int32} (hm : m < 2 ^ 30) (e : hi.toInt = (m : Int) - 1) : (f_X12_in h v (-1) hi = some 0 ∧ f_X11_within h v (-1) hi = some 0) ∨ (f_X12_in h v (-1) hi = some 1 ∧ f_X11_within h v (-1) hi = some 1 ∧ bd (v + 1) (m + 1)) := by
  unfold f_X12_in f_X11_within
  by_cases q1 : v < -1
  · rw [if_pos q1]; exact Or.inl ⟨rfl, rfl⟩
  · rw [if_neg q1]
    by_cases q2 : hi < v
    · rw [if_pos q2]; exact Or.inl ⟨rfl, rfl⟩
    · rw [if_neg q2]
      refine Or.inr ⟨rfl, rfl, bd_of_int ?_⟩
      rw [Int32.lt_iff_toInt_lt, show (-1 : Int32).toInt = -1 by decide] at q1
      rw [Int32.lt_iff_toInt_lt, e] at q2
      have h1 : (1 : Int32).toInt = 1 := by decide
      rw [i3_add (by omega) (by omega), h1]
      omega
theorem pub_group {a b : Int32} (I : INV L xs h σ tr u n) : ∃ v h1 h2 σ' tr' u', f_X11_group h 1 a b = some (v, h1) ∧ f_X12_group h1 100 a b = some (v, h2) ∧ (kd h1 9000 = 30 ∧ ln h1 9000 = L ∧ ai h1 9000 = xs) ∧ INV L xs h2 σ' tr' u' (n + 1) := by
  obtain ⟨C, H, W, X, S, U⟩ := id I
  have hG := W.1.g
  have hT := W.1.t
  have hF := W.1.f
  have hTl := W.1.tl
  rcases okC a (n := cn σ 26) (by omega) with oa | ⟨oa, f, hf, rfl⟩
  · exact ⟨-1, h, h, σ, tr, u, by simp only [f_X11_group, obs, b10, b01, bm, if_true_, if_false_, eq_self, not_true_eq_false, not_false_eq_true, true_or, or_true, or_false, false_or, and_true, true_and, and_false, false_and, or_self, and_self, Bool.false_eq_true, ite_self, n25, n20, n24, n100, kk1 C, RS.kk H, c_isGauge C W.1, c_isTerm C W.1, c_isFarm C W.1, c_isSeason, c_isPlace, r_isGauge H W.1, r_isTerm H W.1, r_isFarm H W.1, r_isSeason, r_isWeek, r_isPlace, r_isSheet, ci1, ri1, ci2, ri2, ci3, ri3, ci4, ri4, ci5, ri5, ci11, ri11, ci16, ri16, ci98, ri98, ci99, ri99, ci198, ri198, ci9999, ri9999, oa], by simp only [f_X12_group, obs, b10, b01, bm, if_true_, if_false_, eq_self, not_true_eq_false, not_false_eq_true, true_or, or_true, or_false, false_or, and_true, true_and, and_false, false_and, or_self, and_self, Bool.false_eq_true, ite_self, n25, n20, n24, n100, kk1 C, RS.kk H, c_isGauge C W.1, c_isTerm C W.1, c_isFarm C W.1, c_isSeason, c_isPlace, r_isGauge H W.1, r_isTerm H W.1, r_isFarm H W.1, r_isSeason, r_isWeek, r_isPlace, r_isSheet, ci1, ri1, ci2, ri2, ci3, ri3, ci4, ri4, ci5, ri5, ci11, ri11, ci16, ri16, ci98, ri98, ci99, ri99, ci198, ri198, ci9999, ri9999, oa], I.2.2.2.2.1, I.up (by omega)⟩
  rcases in_m1 (h := h) (v := b) (m := 4) (hi := 3) (by decide) (by decide) with ⟨q1, q2⟩ | ⟨q1, q2, q3⟩
  · exact ⟨-5, h, h, σ, tr, u, by simp only [f_X11_group, obs, b10, b01, bm, if_true_, if_false_, eq_self, not_true_eq_false, not_false_eq_true, true_or, or_true, or_false, false_or, and_true, true_and, and_false, false_and, or_self, and_self, Bool.false_eq_true, ite_self, n25, n20, n24, n100, kk1 C, RS.kk H, c_isGauge C W.1, c_isTerm C W.1, c_isFarm C W.1, c_isSeason, c_isPlace, r_isGauge H W.1, r_isTerm H W.1, r_isFarm H W.1, r_isSeason, r_isWeek, r_isPlace, r_isSheet, ci1, ri1, ci2, ri2, ci3, ri3, ci4, ri4, ci5, ri5, ci11, ri11, ci16, ri16, ci98, ri98, ci99, ri99, ci198, ri198, ci9999, ri9999, oa, q2], by simp only [f_X12_group, obs, b10, b01, bm, if_true_, if_false_, eq_self, not_true_eq_false, not_false_eq_true, true_or, or_true, or_false, false_or, and_true, true_and, and_false, false_and, or_self, and_self, Bool.false_eq_true, ite_self, n25, n20, n24, n100, kk1 C, RS.kk H, c_isGauge C W.1, c_isTerm C W.1, c_isFarm C W.1, c_isSeason, c_isPlace, r_isGauge H W.1, r_isTerm H W.1, r_isFarm H W.1, r_isSeason, r_isWeek, r_isPlace, r_isSheet, ci1, ri1, ci2, ri2, ci3, ri3, ci4, ri4, ci5, ri5, ci11, ri11, ci16, ri16, ci98, ri98, ci99, ri99, ci198, ri198, ci9999, ri9999, oa, q1], S, I.up (by omega)⟩
  have x1 : xpi h (300 + f) 3 7 b = some (sfi h (300 + f) 7 b) := by unfold xpi; rw [if_pos (kd300 C hf)]
  have C1 : CS (sfi h (300 + f) 7 b) (s2 σ 32 f b) tr u := C.of rfl rfl rfl rfl (C.d.wF W.1.F (b := 300) (f := 7) (k := 32) (c := 26) (m := 24) (by decide) hf) (fun _ _ => rfl) (fun j hj => ⟨by rw [fi_sfi, if_neg (by omega)], fi_sfi_ne (by omega)⟩) (fun r hr => fi_sfi_ne (by omega)) (fun _ _ => rfl) (ks2_row (by decide)) W.1
  have H1 : RS (sfi h (300 + f) 7 b) σ := RSof H rfl rfl rfl (fi_sfi_ne (by omega)) (fun k hk => rfl)
  have hw := rw32 H1 (n := f) (x := b) (by omega)
  have q1' : f_X12_in (sfi h (300 + f) 7 b) b (-1) 3 = some 1 := q1
  have X1 := X.up (m := n + 1) (by omega)
  have X' : WX (s2 σ 32 f b) (n + 1) := by
    refine ⟨fun j hj => ?_, X1.2.1, X1.2.2.1, X1.2.2.2.1, X1.2.2.2.2.1, X1.2.2.2.2.2.1, X1.2.2.2.2.2.2⟩
    obtain ⟨y1, y2, y3⟩ := X1.1 j hj
    refine ⟨?_, y2, y3⟩
    rw [s2_ite]
    split
    · exact q3
    · exact y1
  refine ⟨σ.2 32 f, sfi h (300 + f) 7 b, sai (sfi h (300 + f) 7 b) 132 f b, s2 σ 32 f b, tr, u, ?_, ?_, S, I.st C1 (FRc.a (by omega) (by omega)) hw.2 (W.of (fun _ _ => rfl) (vs2_row (by decide)) (W.2.1.w2_n (by decide)) W.2.2.1) X' S (by omega)⟩
  · simp (disch := omega) only [f_X11_group, obs, b10, b01, bm, if_true_, if_false_, eq_self, not_true_eq_false, not_false_eq_true, true_or, or_true, or_false, false_or, and_true, true_and, and_false, false_and, or_self, and_self, Bool.false_eq_true, ite_self, n25, n20, n24, n100, kk1 C, RS.kk H, c_isGauge C W.1, c_isTerm C W.1, c_isFarm C W.1, c_isSeason, c_isPlace, r_isGauge H W.1, r_isTerm H W.1, r_isFarm H W.1, r_isSeason, r_isWeek, r_isPlace, r_isSheet, ci1, ri1, ci2, ri2, ci3, ri3, ci4, ri4, ci5, ri5, ci11, ri11, ci16, ri16, ci98, ri98, ci99, ri99, ci198, ri198, ci9999, ri9999, oa, q2, kr1_2 C, kg12 C W.1, kc300 C, kf300_7 C, x1]
  · simp (disch := omega) only [f_X12_group, obs, b10, b01, bm, if_true_, if_false_, eq_self, not_true_eq_false, not_false_eq_true, true_or, or_true, or_false, false_or, and_true, true_and, and_false, false_and, or_self, and_self, Bool.false_eq_true, ite_self, n25, n20, n24, n100, RS.kk H1, r_isFarm H1 W.1, oa, q1', rg32 H1, ra32 H1, hw.1]
theorem pub_vote {a b : Int32} (I : INV L xs h σ tr u n) : ∃ v h1 h2 σ' tr' u', f_X11_vote h 1 a b = some (v, h1) ∧ f_X12_vote h1 100 a b = some (v, h2) ∧ (kd h1 9000 = 30 ∧ ln h1 9000 = L ∧ ai h1 9000 = xs) ∧ INV L xs h2 σ' tr' u' (n + 1) := by
  obtain ⟨C, H, W, X, S, U⟩ := id I
  have hG := W.1.g
  have hT := W.1.t
  have hF := W.1.f
  have hTl := W.1.tl
  rcases okC a (n := cn σ 26) (by omega) with oa | ⟨oa, f, hf, rfl⟩
  · exact ⟨-1, h, h, σ, tr, u, by simp only [f_X11_vote, obs, b10, b01, bm, if_true_, if_false_, eq_self, not_true_eq_false, not_false_eq_true, true_or, or_true, or_false, false_or, and_true, true_and, and_false, false_and, or_self, and_self, Bool.false_eq_true, ite_self, n25, n20, n24, n100, kk1 C, RS.kk H, c_isGauge C W.1, c_isTerm C W.1, c_isFarm C W.1, c_isSeason, c_isPlace, r_isGauge H W.1, r_isTerm H W.1, r_isFarm H W.1, r_isSeason, r_isWeek, r_isPlace, r_isSheet, ci1, ri1, ci2, ri2, ci3, ri3, ci4, ri4, ci5, ri5, ci11, ri11, ci16, ri16, ci98, ri98, ci99, ri99, ci198, ri198, ci9999, ri9999, oa], by simp only [f_X12_vote, obs, b10, b01, bm, if_true_, if_false_, eq_self, not_true_eq_false, not_false_eq_true, true_or, or_true, or_false, false_or, and_true, true_and, and_false, false_and, or_self, and_self, Bool.false_eq_true, ite_self, n25, n20, n24, n100, kk1 C, RS.kk H, c_isGauge C W.1, c_isTerm C W.1, c_isFarm C W.1, c_isSeason, c_isPlace, r_isGauge H W.1, r_isTerm H W.1, r_isFarm H W.1, r_isSeason, r_isWeek, r_isPlace, r_isSheet, ci1, ri1, ci2, ri2, ci3, ri3, ci4, ri4, ci5, ri5, ci11, ri11, ci16, ri16, ci98, ri98, ci99, ri99, ci198, ri198, ci9999, ri9999, oa], I.2.2.2.2.1, I.up (by omega)⟩
  rcases okC b (n := 3) (by decide) with ob | ⟨ob, r, hr, rfl⟩
  · exact ⟨-2, h, h, σ, tr, u, by simp only [f_X11_vote, obs, b10, b01, bm, if_true_, if_false_, eq_self, not_true_eq_false, not_false_eq_true, true_or, or_true, or_false, false_or, and_true, true_and, and_false, false_and, or_self, and_self, Bool.false_eq_true, ite_self, n25, n20, n24, n100, kk1 C, RS.kk H, c_isGauge C W.1, c_isTerm C W.1, c_isFarm C W.1, c_isSeason, c_isPlace, r_isGauge H W.1, r_isTerm H W.1, r_isFarm H W.1, r_isSeason, r_isWeek, r_isPlace, r_isSheet, ci1, ri1, ci2, ri2, ci3, ri3, ci4, ri4, ci5, ri5, ci11, ri11, ci16, ri16, ci98, ri98, ci99, ri99, ci198, ri198, ci9999, ri9999, oa, ob], by simp only [f_X12_vote, obs, b10, b01, bm, if_true_, if_false_, eq_self, not_true_eq_false, not_false_eq_true, true_or, or_true, or_false, false_or, and_true, true_and, and_false, false_and, or_self, and_self, Bool.false_eq_true, ite_self, n25, n20, n24, n100, kk1 C, RS.kk H, c_isGauge C W.1, c_isTerm C W.1, c_isFarm C W.1, c_isSeason, c_isPlace, r_isGauge H W.1, r_isTerm H W.1, r_isFarm H W.1, r_isSeason, r_isWeek, r_isPlace, r_isSheet, ci1, ri1, ci2, ri2, ci3, ri3, ci4, ri4, ci5, ri5, ci11, ri11, ci16, ri16, ci98, ri98, ci99, ri99, ci198, ri198, ci9999, ri9999, oa, ob], I.2.2.2.2.1, I.up (by omega)⟩
  have x1 : xpi h (300 + f) 3 8 (nI r) = some (sfi h (300 + f) 8 (nI r)) := by unfold xpi; rw [if_pos (kd300 C hf)]
  have C1 : CS (sfi h (300 + f) 8 (nI r)) (s2 σ 33 f (nI r)) tr u := C.of rfl rfl rfl rfl (C.d.wF W.1.F (b := 300) (f := 8) (k := 33) (c := 26) (m := 24) (by decide) hf) (fun _ _ => rfl) (fun j hj => ⟨by rw [fi_sfi, if_neg (by omega)], fi_sfi_ne (by omega)⟩) (fun r hr => fi_sfi_ne (by omega)) (fun _ _ => rfl) (ks2_row (by decide)) W.1
  have H1 : RS (sfi h (300 + f) 8 (nI r)) σ := RSof H rfl rfl rfl (fi_sfi_ne (by omega)) (fun k hk => rfl)
  have hw := rw33 H1 (n := f) (x := nI r) (by omega)
  have X1 := X.up (m := n + 1) (by omega)
  have X' : WX (s2 σ 33 f (nI r)) (n + 1) := by
    refine ⟨X1.1, X1.2.1, X1.2.2.1, X1.2.2.2.1, X1.2.2.2.2.1, X1.2.2.2.2.2.1, X1.2.2.2.2.2.2.1, fun j h1 h2 => ?_, X1.2.2.2.2.2.2.2.2⟩
    obtain ⟨y1, y2, y3⟩ := X1.2.2.2.2.2.2.2.1 j h1 h2
    refine ⟨y1, ?_, y3⟩
    rw [s2_ite, if_neg (fun z => by have h3 : cn σ 26 ≤ j := h1; have := z.2; omega)]
    exact y2
  refine ⟨σ.2 33 f, sfi h (300 + f) 8 (nI r), sai (sfi h (300 + f) 8 (nI r)) 133 f (nI r), s2 σ 33 f (nI r), tr, u, ?_, ?_, S, I.st C1 (FRc.a (by omega) (by omega)) hw.2 (W.of (fun _ _ => rfl) (vs2_row (by decide)) (W.2.1.w2_33 ⟨r, hr, rfl⟩) W.2.2.1) X' S (by omega)⟩
  · simp (disch := omega) only [f_X11_vote, obs, b10, b01, bm, if_true_, if_false_, eq_self, not_true_eq_false, not_false_eq_true, true_or, or_true, or_false, false_or, and_true, true_and, and_false, false_and, or_self, and_self, Bool.false_eq_true, ite_self, n25, n20, n24, n100, kk1 C, RS.kk H, c_isGauge C W.1, c_isTerm C W.1, c_isFarm C W.1, c_isSeason, c_isPlace, r_isGauge H W.1, r_isTerm H W.1, r_isFarm H W.1, r_isSeason, r_isWeek, r_isPlace, r_isSheet, ci1, ri1, ci2, ri2, ci3, ri3, ci4, ri4, ci5, ri5, ci11, ri11, ci16, ri16, ci98, ri98, ci99, ri99, ci198, ri198, ci9999, ri9999, oa, ob, kr1_2 C, kg12 C W.1, kc300 C, kf300_8 C, x1]
  · simp (disch := omega) only [f_X12_vote, obs, b10, b01, bm, if_true_, if_false_, eq_self, not_true_eq_false, not_false_eq_true, true_or, or_true, or_false, false_or, and_true, true_and, and_false, false_and, or_self, and_self, Bool.false_eq_true, ite_self, n25, n20, n24, n100, RS.kk H1, r_isFarm H1 W.1, ri2, oa, ob, rg33 H1, ra33 H1, hw.1]
theorem mos_in {h : AH} {w : Nat} (hw : w < 4) (v : Int32) : ∃ m, m < 10001 ∧ (∀ x, x < m → (w = 0 → x < 199) ∧ (w = 1 → x < 10000) ∧ (w = 2 → x < 301) ∧ (w = 3 → x < 101)) ∧ f_X12_in h v 0 (MOSL.getD w 0) = some (if ok v m then 1 else 0) := by
  have w4 : w = 0 ∨ w = 1 ∨ w = 2 ∨ w = 3 := by omega
  rcases w4 with rfl | rfl | rfl | rfl
  · exact ⟨199, by omega, fun x hx => by omega, in_ok (by decide) (by decide)⟩
  · exact ⟨10000, by omega, fun x hx => by omega, in_ok (by decide) (by decide)⟩
  · exact ⟨301, by omega, fun x hx => by omega, in_ok (by decide) (by decide)⟩
  · exact ⟨101, by omega, fun x hx => by omega, in_ok (by decide) (by decide)⟩
theorem pub_law {a b : Int32} (I : INV L xs h σ tr u n) : ∃ v h1 h2 σ' tr' u', f_X11_law h 1 a b = some (v, h1) ∧ f_X12_law h1 100 a b = some (v, h2) ∧ (kd h1 9000 = 30 ∧ ln h1 9000 = L ∧ ai h1 9000 = xs) ∧ INV L xs h2 σ' tr' u' (n + 1) := by
  obtain ⟨C, H, W, X, S, U⟩ := id I
  have hG := W.1.g
  have hT := W.1.t
  have hF := W.1.f
  have hTl := W.1.tl
  rcases okC a (n := 4) (by decide) with oa | ⟨oa, w, hw, rfl⟩
  · exact ⟨-1, h, h, σ, tr, u, by simp only [f_X11_law, obs, b10, b01, bm, if_true_, if_false_, eq_self, not_true_eq_false, not_false_eq_true, true_or, or_true, or_false, false_or, and_true, true_and, and_false, false_and, or_self, and_self, Bool.false_eq_true, ite_self, n25, n20, n24, n100, kk1 C, RS.kk H, c_isGauge C W.1, c_isTerm C W.1, c_isFarm C W.1, c_isSeason, c_isPlace, r_isGauge H W.1, r_isTerm H W.1, r_isFarm H W.1, r_isSeason, r_isWeek, r_isPlace, r_isSheet, ci1, ri1, ci2, ri2, ci3, ri3, ci4, ri4, ci5, ri5, ci11, ri11, ci16, ri16, ci98, ri98, ci99, ri99, ci198, ri198, ci9999, ri9999, oa], by simp only [f_X12_law, obs, b10, b01, bm, if_true_, if_false_, eq_self, not_true_eq_false, not_false_eq_true, true_or, or_true, or_false, false_or, and_true, true_and, and_false, false_and, or_self, and_self, Bool.false_eq_true, ite_self, n25, n20, n24, n100, kk1 C, RS.kk H, c_isGauge C W.1, c_isTerm C W.1, c_isFarm C W.1, c_isSeason, c_isPlace, r_isGauge H W.1, r_isTerm H W.1, r_isFarm H W.1, r_isSeason, r_isWeek, r_isPlace, r_isSheet, ci1, ri1, ci2, ri2, ci3, ri3, ci4, ri4, ci5, ri5, ci11, ri11, ci16, ri16, ci98, ri98, ci99, ri99, ci198, ri198, ci9999, ri9999, oa], I.2.2.2.2.1, I.up (by omega)⟩
  have e6 := W.2.2.2.2.1.2.1 w hw
  obtain ⟨m, hm, hmx, hin⟩ := mos_in (h := h) hw b
  have hinc : f_X11_within h b 0 (MOSL.getD w 0) = some (if ok b m then 1 else 0) := hin
  rcases okC b (n := m) (by omega) with ob | ⟨ob, v, hv, rfl⟩
  · exact ⟨-2, h, h, σ, tr, u, by simp (disch := omega) only [f_X11_law, obs, b10, b01, bm, if_true_, if_false_, eq_self, not_true_eq_false, not_false_eq_true, true_or, or_true, or_false, false_or, and_true, true_and, and_false, false_and, or_self, and_self, Bool.false_eq_true, ite_self, n25, n20, n24, n100, kk1 C, RS.kk H, c_isGauge C W.1, c_isTerm C W.1, c_isFarm C W.1, c_isSeason, c_isPlace, r_isGauge H W.1, r_isTerm H W.1, r_isFarm H W.1, r_isSeason, r_isWeek, r_isPlace, r_isSheet, ci1, ri1, ci2, ri2, ci3, ri3, ci4, ri4, ci5, ri5, ci11, ri11, ci16, ri16, ci98, ri98, ci99, ri99, ci198, ri198, ci9999, ri9999, oa, kmos C, hinc, ob], by simp (disch := omega) only [f_X12_law, obs, b10, b01, bm, if_true_, if_false_, eq_self, not_true_eq_false, not_false_eq_true, true_or, or_true, or_false, false_or, and_true, true_and, and_false, false_and, or_self, and_self, Bool.false_eq_true, ite_self, n25, n20, n24, n100, kk1 C, RS.kk H, c_isGauge C W.1, c_isTerm C W.1, c_isFarm C W.1, c_isSeason, c_isPlace, r_isGauge H W.1, r_isTerm H W.1, r_isFarm H W.1, r_isSeason, r_isWeek, r_isPlace, r_isSheet, ci1, ri1, ci2, ri2, ci3, ri3, ci4, ri4, ci5, ri5, ci11, ri11, ci16, ri16, ci98, ri98, ci99, ri99, ci198, ri198, ci9999, ri9999, oa, rg6 H, ra6 H, e6, hin, ob], S, I.up (by omega)⟩
  have C1 : CS (sai h 16 w (nI v)) (s2 σ 5 w (nI v)) tr u := C.of rfl rfl rfl rfl (C.d.wA1 W.1 (r := 16) (m := 4) (by decide) hw) (fun r hr => ai_sai_ne (by omega)) (fun j hj => ⟨rfl, rfl⟩) (fun _ _ => rfl) (fun _ _ => rfl) (ks2_row (by decide)) W.1
  have H1 : RS (sai h 16 w (nI v)) σ := RSof H rfl rfl rfl rfl (fun k hk => ai_sai_ne (by omega))
  have hw1 := rw5 H1 (n := w) (x := nI v) hw
  have hin' : f_X12_in (sai h 16 w (nI v)) (nI v) 0 (MOSL.getD w 0) = some (if ok (nI v) m then 1 else 0) := hin
  have S1 : kd (sai h 16 w (nI v)) 9000 = 30 ∧ ln (sai h 16 w (nI v)) 9000 = L ∧ ai (sai h 16 w (nI v)) 9000 = xs := by rw [ai_sai_ne (by omega)]; exact S
  obtain ⟨m0, m1, m2, m3⟩ := hmx v hv
  have Wl : WL (s2 σ 5 w (nI v)) := by
    obtain ⟨y0, y1, y2, y3⟩ := W.2.2.1
    unfold WL
    rw [s2_ite, s2_ite, s2_ite, s2_ite]
    refine ⟨?_, ?_, ?_, ?_⟩
    · split
      · rename_i q; exact ⟨v, m0 q.2.symm, rfl⟩
      · exact y0
    · split
      · rename_i q; exact ⟨v, m1 q.2.symm, rfl⟩
      · exact y1
    · split
      · rename_i q; exact ⟨v, m2 q.2.symm, rfl⟩
      · exact y2
    · split
      · rename_i q; exact ⟨v, m3 q.2.symm, rfl⟩
      · exact y3
  refine ⟨σ.2 5 w, sai h 16 w (nI v), sai (sai h 16 w (nI v)) 105 w (nI v), s2 σ 5 w (nI v), tr, u, ?_, ?_, S1, I.st C1 (FRc.a (by omega) (by omega)) hw1.2 (W.of (fun _ _ => rfl) (vs2_row (by decide)) (W.2.1.w2_n (by decide)) Wl) ((X.up (by omega)).of (fun _ _ => rfl) (xs2_row (by decide))) S1 (by omega)⟩
  · simp (disch := omega) only [f_X11_law, obs, b10, b01, bm, if_true_, if_false_, eq_self, not_true_eq_false, not_false_eq_true, true_or, or_true, or_false, false_or, and_true, true_and, and_false, false_and, or_self, and_self, Bool.false_eq_true, ite_self, n25, n20, n24, n100, kk1 C, RS.kk H, c_isGauge C W.1, c_isTerm C W.1, c_isFarm C W.1, c_isSeason, c_isPlace, r_isGauge H W.1, r_isTerm H W.1, r_isFarm H W.1, r_isSeason, r_isWeek, r_isPlace, r_isSheet, ci1, ri1, ci2, ri2, ci3, ri3, ci4, ri4, ci5, ri5, ci11, ri11, ci16, ri16, ci98, ri98, ci99, ri99, ci198, ri198, ci9999, ri9999, oa, kmos C, hinc, ob, kr1_6 C, kx16 C, ks16 C]
  · simp (disch := omega) only [f_X12_law, obs, b10, b01, bm, if_true_, if_false_, eq_self, not_true_eq_false, not_false_eq_true, true_or, or_true, or_false, false_or, and_true, true_and, and_false, false_and, or_self, and_self, Bool.false_eq_true, ite_self, n25, n20, n24, n100, RS.kk H1, ri3, oa, rg6 H1, ra6 H1, e6, hin', ob, rg5 H1, ra5 H1, hw1.1]
theorem kp18_3 (C : CS h σ tr u) {j : Nat} {v : Int32} (hj : j < 60) : f_X7_put h 18 (nI j) 3 v = some (sai h 34 (4 * j + 3) v) := by
  have e2 : xis h 34 (nI (4 * j + 3)) v = some (sai h 34 (4 * j + 3) v) := xis_of (kk34 C) (kl C (by decide)) (show 4 * j + 3 < 240 by omega) (by decide)
  unfold f_X7_put
  rw [if_pos (kk18 C), kr18_2 C, obs, kw18 C, obs, show nI j * 4 + 3 = nI (4 * j + 3) by rw [show (4 : Int32) = nI 4 by decide, show (3 : Int32) = nI 3 by decide, nI_mul, nI_add, Nat.mul_comm], e2, obs]
theorem kp20_3 (C : CS h σ tr u) {j : Nat} {v : Int32} (hj : j < 200) : f_X7_put h 20 (nI j) 3 v = some (sai h 36 (4 * j + 3) v) := by
  have e2 : xis h 36 (nI (4 * j + 3)) v = some (sai h 36 (4 * j + 3) v) := xis_of (kk36 C) (kl C (by decide)) (show 4 * j + 3 < 800 by omega) (by decide)
  unfold f_X7_put
  rw [if_pos (kk20 C), kr20_2 C, obs, kw20 C, obs, show nI j * 4 + 3 = nI (4 * j + 3) by rw [show (4 : Int32) = nI 4 by decide, show (3 : Int32) = nI 3 by decide, nI_mul, nI_add, Nat.mul_comm], e2, obs]
theorem kp19_2 (C : CS h σ tr u) {j : Nat} {v : Int32} (hj : j < 80) : f_X7_put h 19 (nI j) 2 v = some (sai h 35 (4 * j + 2) v) := by
  have e2 : xis h 35 (nI (4 * j + 2)) v = some (sai h 35 (4 * j + 2) v) := xis_of (kk35 C) (kl C (by decide)) (show 4 * j + 2 < 320 by omega) (by decide)
  unfold f_X7_put
  rw [if_pos (kk19 C), kr19_2 C, obs, kw19 C, obs, show nI j * 4 + 2 = nI (4 * j + 2) by rw [show (4 : Int32) = nI 4 by decide, show (2 : Int32) = nI 2 by decide, nI_mul, nI_add, Nat.mul_comm], e2, obs]
theorem kp19_3 (C : CS h σ tr u) {j : Nat} {v : Int32} (hj : j < 80) : f_X7_put h 19 (nI j) 3 v = some (sai h 35 (4 * j + 3) v) := by
  have e2 : xis h 35 (nI (4 * j + 3)) v = some (sai h 35 (4 * j + 3) v) := xis_of (kk35 C) (kl C (by decide)) (show 4 * j + 3 < 320 by omega) (by decide)
  unfold f_X7_put
  rw [if_pos (kk19 C), kr19_2 C, obs, kw19 C, obs, show nI j * 4 + 3 = nI (4 * j + 3) by rw [show (4 : Int32) = nI 4 by decide, show (3 : Int32) = nI 3 by decide, nI_mul, nI_add, Nat.mul_comm], e2, obs]
theorem kp21_3 (C : CS h σ tr u) {j : Nat} {v : Int32} (hj : j < 20) : f_X7_put h 21 (nI j) 3 v = some (sai h 37 (5 * j + 3) v) := by
  have e2 : xis h 37 (nI (5 * j + 3)) v = some (sai h 37 (5 * j + 3) v) := xis_of (kk37 C) (kl C (by decide)) (show 5 * j + 3 < 100 by omega) (by decide)
  unfold f_X7_put
  rw [if_pos (kk21 C), kr21_2 C, obs, kw21 C, obs, show nI j * 5 + 3 = nI (5 * j + 3) by rw [show (5 : Int32) = nI 5 by decide, show (3 : Int32) = nI 3 by decide, nI_mul, nI_add, Nat.mul_comm], e2, obs]
theorem kp21_4 (C : CS h σ tr u) {j : Nat} {v : Int32} (hj : j < 20) : f_X7_put h 21 (nI j) 4 v = some (sai h 37 (5 * j + 4) v) := by
  have e2 : xis h 37 (nI (5 * j + 4)) v = some (sai h 37 (5 * j + 4) v) := xis_of (kk37 C) (kl C (by decide)) (show 5 * j + 4 < 100 by omega) (by decide)
  unfold f_X7_put
  rw [if_pos (kk21 C), kr21_2 C, obs, kw21 C, obs, show nI j * 5 + 4 = nI (5 * j + 4) by rw [show (5 : Int32) = nI 5 by decide, show (4 : Int32) = nI 4 by decide, nI_mul, nI_add, Nat.mul_comm], e2, obs]
theorem pub_lapse {a b : Int32} (I : INV L xs h σ tr u n) (hN : 2000 < N) : ∃ v h1 h2 σ' tr' u', f_X11_lapse h N 1 a b = some (v, h1) ∧ f_X12_lapse h1 N 100 a b = some (v, h2) ∧ (kd h1 9000 = 30 ∧ ln h1 9000 = L ∧ ai h1 9000 = xs) ∧ INV L xs h2 σ' tr' u' (n + 1) := by
  obtain ⟨C, H, W, X, S, U⟩ := id I
  have hG := W.1.g
  have hT := W.1.t
  have hF := W.1.f
  have hTl := W.1.tl
  have hC := W.1.c
  rcases okC a (n := cn σ 26) (by omega) with oa | ⟨oa, f, hf, rfl⟩
  · exact ⟨-1, h, h, σ, tr, u, by simp only [f_X11_lapse, obs, b10, b01, bm, if_true_, if_false_, eq_self, not_true_eq_false, not_false_eq_true, true_or, or_true, or_false, false_or, and_true, true_and, and_false, false_and, or_self, and_self, Bool.false_eq_true, ite_self, n25, n20, n24, n100, kk1 C, RS.kk H, c_isGauge C W.1, c_isTerm C W.1, c_isFarm C W.1, c_isSeason, c_isPlace, r_isGauge H W.1, r_isTerm H W.1, r_isFarm H W.1, r_isSeason, r_isWeek, r_isPlace, r_isSheet, ci1, ri1, ci2, ri2, ci3, ri3, ci4, ri4, ci5, ri5, ci11, ri11, ci16, ri16, ci98, ri98, ci99, ri99, ci198, ri198, ci9999, ri9999, oa], by simp only [f_X12_lapse, obs, b10, b01, bm, if_true_, if_false_, eq_self, not_true_eq_false, not_false_eq_true, true_or, or_true, or_false, false_or, and_true, true_and, and_false, false_and, or_self, and_self, Bool.false_eq_true, ite_self, n25, n20, n24, n100, kk1 C, RS.kk H, c_isGauge C W.1, c_isTerm C W.1, c_isFarm C W.1, c_isSeason, c_isPlace, r_isGauge H W.1, r_isTerm H W.1, r_isFarm H W.1, r_isSeason, r_isWeek, r_isPlace, r_isSheet, ci1, ri1, ci2, ri2, ci3, ri3, ci4, ri4, ci5, ri5, ci11, ri11, ci16, ri16, ci98, ri98, ci99, ri99, ci198, ri198, ci9999, ri9999, oa], I.2.2.2.2.1, I.up (by omega)⟩
  rcases okC b (n := 16) (by decide) with ob | ⟨ob, s, hs, rfl⟩
  · exact ⟨-1, h, h, σ, tr, u, by simp only [f_X11_lapse, obs, b10, b01, bm, if_true_, if_false_, eq_self, not_true_eq_false, not_false_eq_true, true_or, or_true, or_false, false_or, and_true, true_and, and_false, false_and, or_self, and_self, Bool.false_eq_true, ite_self, n25, n20, n24, n100, kk1 C, RS.kk H, c_isGauge C W.1, c_isTerm C W.1, c_isFarm C W.1, c_isSeason, c_isPlace, r_isGauge H W.1, r_isTerm H W.1, r_isFarm H W.1, r_isSeason, r_isWeek, r_isPlace, r_isSheet, ci1, ri1, ci2, ri2, ci3, ri3, ci4, ri4, ci5, ri5, ci11, ri11, ci16, ri16, ci98, ri98, ci99, ri99, ci198, ri198, ci9999, ri9999, oa, ob], by simp only [f_X12_lapse, obs, b10, b01, bm, if_true_, if_false_, eq_self, not_true_eq_false, not_false_eq_true, true_or, or_true, or_false, false_or, and_true, true_and, and_false, false_and, or_self, and_self, Bool.false_eq_true, ite_self, n25, n20, n24, n100, kk1 C, RS.kk H, c_isGauge C W.1, c_isTerm C W.1, c_isFarm C W.1, c_isSeason, c_isPlace, r_isGauge H W.1, r_isTerm H W.1, r_isFarm H W.1, r_isSeason, r_isWeek, r_isPlace, r_isSheet, ci1, ri1, ci2, ri2, ci3, ri3, ci4, ri4, ci5, ri5, ci11, ri11, ci16, ri16, ci98, ri98, ci99, ri99, ci198, ri198, ci9999, ri9999, oa, ob], I.2.2.2.2.1, I.up (by omega)⟩
  rcases e : coverO σ f (nI s) with _ | c
  · have e1 := c_coverOf (N := N) C W.1 (f := f) (s := nI s) (by omega)
    have e2 := r_coverOf (N := N) H W.1 (f := f) (s := nI s) (by omega)
    rw [e] at e1 e2
    exact ⟨-3, h, h, σ, tr, u, by simp only [f_X11_lapse, obs, b10, b01, bm, if_true_, if_false_, eq_self, not_true_eq_false, not_false_eq_true, true_or, or_true, or_false, false_or, and_true, true_and, and_false, false_and, or_self, and_self, Bool.false_eq_true, ite_self, n25, n20, n24, n100, kk1 C, RS.kk H, c_isGauge C W.1, c_isTerm C W.1, c_isFarm C W.1, c_isSeason, c_isPlace, r_isGauge H W.1, r_isTerm H W.1, r_isFarm H W.1, r_isSeason, r_isWeek, r_isPlace, r_isSheet, ci1, ri1, ci2, ri2, ci3, ri3, ci4, ri4, ci5, ri5, ci11, ri11, ci16, ri16, ci98, ri98, ci99, ri99, ci198, ri198, ci9999, ri9999, oa, ob, e1, oI_n], by simp only [f_X12_lapse, obs, b10, b01, bm, if_true_, if_false_, eq_self, not_true_eq_false, not_false_eq_true, true_or, or_true, or_false, false_or, and_true, true_and, and_false, false_and, or_self, and_self, Bool.false_eq_true, ite_self, n25, n20, n24, n100, kk1 C, RS.kk H, c_isGauge C W.1, c_isTerm C W.1, c_isFarm C W.1, c_isSeason, c_isPlace, r_isGauge H W.1, r_isTerm H W.1, r_isFarm H W.1, r_isSeason, r_isWeek, r_isPlace, r_isSheet, ci1, ri1, ci2, ri2, ci3, ri3, ci4, ri4, ci5, ri5, ci11, ri11, ci16, ri16, ci98, ri98, ci99, ri99, ci198, ri198, ci9999, ri9999, oa, ob, e2, oI_n], S, I.up (by omega)⟩
  have hc := coverO_lt e
  have C1 : CS (sai h 34 (4 * c + 3) (nI s)) (s2 σ 40 c (nI s)) tr u := C.of rfl rfl rfl rfl (C.d.wA W.1.B (r := 34) (st := 4) (o := 3) (k := 40) (n := 60) (by decide) (by omega)) (fun r hr => ai_sai_ne (by omega)) (fun j hj => ⟨rfl, rfl⟩) (fun _ _ => rfl) (fun _ _ => rfl) (ks2_row (by decide)) W.1
  have H1 : RS (sai h 34 (4 * c + 3) (nI s)) σ := RSof H rfl rfl rfl rfl (fun k hk => ai_sai_ne (by omega))
  have hw1 := rw40 H1 (n := c) (x := nI s) (by omega)
  have S1 : kd (sai h 34 (4 * c + 3) (nI s)) 9000 = 30 ∧ ln (sai h 34 (4 * c + 3) (nI s)) 9000 = L ∧ ai (sai h 34 (4 * c + 3) (nI s)) 9000 = xs := by rw [ai_sai_ne (by omega)]; exact S
  have e1 := c_coverOf (N := N) C W.1 (f := f) (s := nI s) (by omega)
  have e2 := r_coverOf (N := N) H1 W.1 (f := f) (s := nI s) (by omega)
  rw [e] at e1 e2
  refine ⟨σ.2 40 c - nI s, sai h 34 (4 * c + 3) (nI s), sai (sai h 34 (4 * c + 3) (nI s)) 140 c (nI s), s2 σ 40 c (nI s), tr, u, ?_, ?_, S1, I.st C1 (FRc.a (by omega) (by omega)) hw1.2 (W.of (fun _ _ => rfl) (vs2_row (by decide)) (W.2.1.w2_40 ⟨s, by omega, rfl⟩) W.2.2.1) ((X.up (by omega)).of (fun _ _ => rfl) (xs2_row (by decide))) S1 (by omega)⟩
  · simp (disch := omega) only [f_X11_lapse, obs, b10, b01, bm, if_true_, if_false_, eq_self, not_true_eq_false, not_false_eq_true, true_or, or_true, or_false, false_or, and_true, true_and, and_false, false_and, or_self, and_self, Bool.false_eq_true, ite_self, n25, n20, n24, n100, kk1 C, RS.kk H, c_isGauge C W.1, c_isTerm C W.1, c_isFarm C W.1, c_isSeason, c_isPlace, r_isGauge H W.1, r_isTerm H W.1, r_isFarm H W.1, r_isSeason, r_isWeek, r_isPlace, r_isSheet, ci1, ri1, ci2, ri2, ci3, ri3, ci4, ri4, ci5, ri5, ci11, ri11, ci16, ri16, ci98, ri98, ci99, ri99, ci198, ri198, ci9999, ri9999, oa, ob, e1, oI_s, nI_negF, kr1_8 C, ka18_3 C, kp18_3 C]
  · simp (disch := omega) only [f_X12_lapse, obs, b10, b01, bm, if_true_, if_false_, eq_self, not_true_eq_false, not_false_eq_true, true_or, or_true, or_false, false_or, and_true, true_and, and_false, false_and, or_self, and_self, Bool.false_eq_true, ite_self, n25, n20, n24, n100, RS.kk H1, r_isFarm H1 W.1, r_isSeason, oa, ob, e2, oI_s, nI_negF, rg40 H1, ra40 H1, hw1.1]
end
