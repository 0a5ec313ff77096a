/-! ===== public: look ===== -/
section
variable {L N : Nat} {xs : Nat → Int32} {h h' : AH} {σ σ' : SG} {tr : Nat → Nat} {u n : Nat}

def lookP (σ : SG) (f s l : Nat) : Bool := decide (σ.2 42 l = nI f) && decide (σ.2 43 l = nI s)
def lookO (σ : SG) (f s : Nat) : Option Nat := fnd (fun l => lookP σ f s l = true) 0 (cn σ 41)
theorem lookO_lt {f s l : Nat} (e : lookO σ f s = some l) : l < cn σ 41 := by
  have := (fnd_lt e).1
  omega
theorem r_lookOf (H : RS h σ) (W : CT σ) {f s : Nat} (hN : 100 < N) : f_X12_lookOf h N 100 (nI f) (nI s) = some (oI (lookO σ f s)) := by
  have hL := W.l
  unfold f_X12_lookOf
  rw [if_pos H.1]
  refine lpF (fun n i => f_X12_lookOf_b2 h N n 100 (nI f) (nI s) (nI i)) (fun l => lookP σ f s l = true) (cn σ 41) (fun o => some (oI o)) ?_ ?_ (m := cn σ 41) (i := 0) (by omega) (by omega)
  · intro n
    simp (disch := omega) only [f_X12_lookOf_b2, f_X12_lookOf_b2_body, obs, b10, b01, bm, if_true_, if_false_, eq_self, not_true_eq_false, not_false_eq_true, true_or, or_true, or_false, false_or, and_true, true_and, and_false, false_and, or_self, and_self, Bool.false_eq_true, ite_self, n25, n20, n24, n100, RS.gi H, hL.1, nI_leI, Nat.le_refl, oI_n]
  · intro n i hi
    have hn : ¬ cn σ 41 ≤ i := by omega
    by_cases q1 : σ.2 42 i = nI f <;> by_cases q2 : σ.2 43 i = nI s <;> simp (disch := omega) only [f_X12_lookOf_b2, f_X12_lookOf_b2_body, f_X12_lookOf_b32, obs, b10, b01, bm, if_true_, if_false_, eq_self, not_true_eq_false, not_false_eq_true, true_or, or_true, or_false, false_or, and_true, true_and, and_false, false_and, or_self, and_self, Bool.false_eq_true, ite_self, n25, n20, n24, n100, decide_true, decide_false, Bool.not_true, Bool.not_false, Bool.and_true, Bool.and_false, Bool.true_and, Bool.false_and, RS.gi H, hL.1, nI_leI, hn, rg42 H, ra42 H, rg43 H, ra43 H, q1, q2, lookP, oI_s, nI_1]
theorem c_find19 (C : CS h σ tr u) (W : CT σ) {f s : Nat} (hN : 100 < N) : f_X7_find h N 19 (nI f) (nI s) = some (oI (lookO σ f s)) := by
  have hL := W.l
  unfold f_X7_find
  rw [if_pos (kk19 C)]
  refine lpF (fun n i => f_X7_find_b2 h N n 19 (nI f) (nI s) (nI i)) (fun l => lookP σ f s l = true) (cn σ 41) (fun o => some (oI o)) ?_ ?_ (m := cn σ 41) (i := 0) (by omega) (by omega)
  · intro n
    simp (disch := omega) only [f_X7_find_b2, f_X7_find_b2_body, obs, b10, b01, bm, if_true_, if_false_, eq_self, not_true_eq_false, not_false_eq_true, true_or, or_true, or_false, false_or, and_true, true_and, and_false, false_and, or_self, and_self, Bool.false_eq_true, ite_self, n25, n20, n24, n100, ki19_3 C, hL.1, nI_leI, Nat.le_refl, oI_n]
  · intro n i hi
    have hn : ¬ cn σ 41 ≤ i := by omega
    by_cases q1 : σ.2 42 i = nI f <;> by_cases q2 : σ.2 43 i = nI s <;> simp (disch := omega) only [f_X7_find_b2, f_X7_find_b2_body, f_X7_find_b32, obs, b10, b01, bm, if_true_, if_false_, eq_self, not_true_eq_false, not_false_eq_true, true_or, or_true, or_false, false_or, and_true, true_and, and_false, false_and, or_self, and_self, Bool.false_eq_true, ite_self, n25, n20, n24, n100, decide_true, decide_false, Bool.not_true, Bool.not_false, Bool.and_true, Bool.and_false, Bool.true_and, Bool.false_and, ki19_3 C, hL.1, nI_leI, hn, ka19_0 C, ka19_1 C, q1, q2, lookP, oI_s, nI_1]
theorem pub_look {a b c d : Int32} (I : INV L xs h σ tr u n) (hN : 2000 < N) : ∃ v h1 h2 σ' tr' u', f_X11_look h N 1 a b c d = some (v, h1) ∧ f_X12_look h1 N 100 a b c d = some (v, h2) ∧ (kd h1 9000 = 30 ∧ ln h1 9000 = L ∧ ai h1 9000 = xs) ∧ INV L xs h2 σ' tr' u' (n + 1) := by
  obtain ⟨C, H, W, X, S, U⟩ := id I
  have hG := W.1.g
  have hT := W.1.t
  have hF := W.1.f
  have hTl := W.1.tl
  have hL := W.1.l
  rcases okC a (n := cn σ 26) (by omega) with oa | ⟨oa, f, hf, rfl⟩
  · exact ⟨-1, h, h, σ, tr, u, by simp only [f_X11_look, obs, b10, b01, bm, if_true_, if_false_, eq_self, not_true_eq_false, not_false_eq_true, true_or, or_true, or_false, false_or, and_true, true_and, and_false, false_and, or_self, and_self, Bool.false_eq_true, ite_self, n25, n20, n24, n100, kk1 C, RS.kk H, c_isGauge C W.1, c_isTerm C W.1, c_isFarm C W.1, c_isSeason, c_isPlace, r_isGauge H W.1, r_isTerm H W.1, r_isFarm H W.1, r_isSeason, r_isWeek, r_isPlace, r_isSheet, ci1, ri1, ci2, ri2, ci3, ri3, ci4, ri4, ci5, ri5, ci11, ri11, ci16, ri16, ci98, ri98, ci99, ri99, ci198, ri198, ci9999, ri9999, oa], by simp only [f_X12_look, obs, b10, b01, bm, if_true_, if_false_, eq_self, not_true_eq_false, not_false_eq_true, true_or, or_true, or_false, false_or, and_true, true_and, and_false, false_and, or_self, and_self, Bool.false_eq_true, ite_self, n25, n20, n24, n100, kk1 C, RS.kk H, c_isGauge C W.1, c_isTerm C W.1, c_isFarm C W.1, c_isSeason, c_isPlace, r_isGauge H W.1, r_isTerm H W.1, r_isFarm H W.1, r_isSeason, r_isWeek, r_isPlace, r_isSheet, ci1, ri1, ci2, ri2, ci3, ri3, ci4, ri4, ci5, ri5, ci11, ri11, ci16, ri16, ci98, ri98, ci99, ri99, ci198, ri198, ci9999, ri9999, oa], I.2.2.2.2.1, I.up (by omega)⟩
  rcases okC b (n := 16) (by decide) with ob | ⟨ob, s, hs, rfl⟩
  · exact ⟨-1, h, h, σ, tr, u, by simp only [f_X11_look, obs, b10, b01, bm, if_true_, if_false_, eq_self, not_true_eq_false, not_false_eq_true, true_or, or_true, or_false, false_or, and_true, true_and, and_false, false_and, or_self, and_self, Bool.false_eq_true, ite_self, n25, n20, n24, n100, kk1 C, RS.kk H, c_isGauge C W.1, c_isTerm C W.1, c_isFarm C W.1, c_isSeason, c_isPlace, r_isGauge H W.1, r_isTerm H W.1, r_isFarm H W.1, r_isSeason, r_isWeek, r_isPlace, r_isSheet, ci1, ri1, ci2, ri2, ci3, ri3, ci4, ri4, ci5, ri5, ci11, ri11, ci16, ri16, ci98, ri98, ci99, ri99, ci198, ri198, ci9999, ri9999, oa, ob], by simp only [f_X12_look, obs, b10, b01, bm, if_true_, if_false_, eq_self, not_true_eq_false, not_false_eq_true, true_or, or_true, or_false, false_or, and_true, true_and, and_false, false_and, or_self, and_self, Bool.false_eq_true, ite_self, n25, n20, n24, n100, kk1 C, RS.kk H, c_isGauge C W.1, c_isTerm C W.1, c_isFarm C W.1, c_isSeason, c_isPlace, r_isGauge H W.1, r_isTerm H W.1, r_isFarm H W.1, r_isSeason, r_isWeek, r_isPlace, r_isSheet, ci1, ri1, ci2, ri2, ci3, ri3, ci4, ri4, ci5, ri5, ci11, ri11, ci16, ri16, ci98, ri98, ci99, ri99, ci198, ri198, ci9999, ri9999, oa, ob], I.2.2.2.2.1, I.up (by omega)⟩
  rcases okC c (n := 10000) (by decide) with oc | ⟨oc, l, hl, rfl⟩
  · exact ⟨-2, h, h, σ, tr, u, by simp only [f_X11_look, obs, b10, b01, bm, if_true_, if_false_, eq_self, not_true_eq_false, not_false_eq_true, true_or, or_true, or_false, false_or, and_true, true_and, and_false, false_and, or_self, and_self, Bool.false_eq_true, ite_self, n25, n20, n24, n100, kk1 C, RS.kk H, c_isGauge C W.1, c_isTerm C W.1, c_isFarm C W.1, c_isSeason, c_isPlace, r_isGauge H W.1, r_isTerm H W.1, r_isFarm H W.1, r_isSeason, r_isWeek, r_isPlace, r_isSheet, ci1, ri1, ci2, ri2, ci3, ri3, ci4, ri4, ci5, ri5, ci11, ri11, ci16, ri16, ci98, ri98, ci99, ri99, ci198, ri198, ci9999, ri9999, oa, ob, oc], by simp only [f_X12_look, obs, b10, b01, bm, if_true_, if_false_, eq_self, not_true_eq_false, not_false_eq_true, true_or, or_true, or_false, false_or, and_true, true_and, and_false, false_and, or_self, and_self, Bool.false_eq_true, ite_self, n25, n20, n24, n100, kk1 C, RS.kk H, c_isGauge C W.1, c_isTerm C W.1, c_isFarm C W.1, c_isSeason, c_isPlace, r_isGauge H W.1, r_isTerm H W.1, r_isFarm H W.1, r_isSeason, r_isWeek, r_isPlace, r_isSheet, ci1, ri1, ci2, ri2, ci3, ri3, ci4, ri4, ci5, ri5, ci11, ri11, ci16, ri16, ci98, ri98, ci99, ri99, ci198, ri198, ci9999, ri9999, oa, ob, oc], I.2.2.2.2.1, I.up (by omega)⟩
  rcases okC d (n := 10000) (by decide) with od | ⟨od, d, hd, rfl⟩
  · exact ⟨-2, h, h, σ, tr, u, by simp only [f_X11_look, obs, b10, b01, bm, if_true_, if_false_, eq_self, not_true_eq_false, not_false_eq_true, true_or, or_true, or_false, false_or, and_true, true_and, and_false, false_and, or_self, and_self, Bool.false_eq_true, ite_self, n25, n20, n24, n100, kk1 C, RS.kk H, c_isGauge C W.1, c_isTerm C W.1, c_isFarm C W.1, c_isSeason, c_isPlace, r_isGauge H W.1, r_isTerm H W.1, r_isFarm H W.1, r_isSeason, r_isWeek, r_isPlace, r_isSheet, ci1, ri1, ci2, ri2, ci3, ri3, ci4, ri4, ci5, ri5, ci11, ri11, ci16, ri16, ci98, ri98, ci99, ri99, ci198, ri198, ci9999, ri9999, oa, ob, oc, od], by simp only [f_X12_look, obs, b10, b01, bm, if_true_, if_false_, eq_self, not_true_eq_false, not_false_eq_true, true_or, or_true, or_false, false_or, and_true, true_and, and_false, false_and, or_self, and_self, Bool.false_eq_true, ite_self, n25, n20, n24, n100, kk1 C, RS.kk H, c_isGauge C W.1, c_isTerm C W.1, c_isFarm C W.1, c_isSeason, c_isPlace, r_isGauge H W.1, r_isTerm H W.1, r_isFarm H W.1, r_isSeason, r_isWeek, r_isPlace, r_isSheet, ci1, ri1, ci2, ri2, ci3, ri3, ci4, ri4, ci5, ri5, ci11, ri11, ci16, ri16, ci98, ri98, ci99, ri99, ci198, ri198, ci9999, ri9999, oa, ob, oc, od], I.2.2.2.2.1, I.up (by omega)⟩
  have X1 := X.up (m := n + 1) (by omega)
  have e1 := c_find19 (N := N) C W.1 (f := f) (s := s) (by omega)
  rcases e : lookO σ f s with _ | i
  · rw [e] at e1
    by_cases q : cn σ 41 = 80
    · have e2 := r_lookOf (N := N) H W.1 (f := f) (s := s) (by omega)
      rw [e] at e2
      have q80 : σ.1 41 = nI 80 := by rw [hL.1, q]
      exact ⟨-4, h, h, σ, tr, u, by simp only [f_X11_look, obs, b10, b01, bm, if_true_, if_false_, eq_self, not_true_eq_false, not_false_eq_true, true_or, or_true, or_false, false_or, and_true, true_and, and_false, false_and, or_self, and_self, Bool.false_eq_true, ite_self, n25, n20, n24, n100, kk1 C, RS.kk H, c_isGauge C W.1, c_isTerm C W.1, c_isFarm C W.1, c_isSeason, c_isPlace, r_isGauge H W.1, r_isTerm H W.1, r_isFarm H W.1, r_isSeason, r_isWeek, r_isPlace, r_isSheet, ci1, ri1, ci2, ri2, ci3, ri3, ci4, ri4, ci5, ri5, ci11, ri11, ci16, ri16, ci98, ri98, ci99, ri99, ci198, ri198, ci9999, ri9999, oa, ob, oc, od, kr1_9 C, e1, oI_n, kfull19 C W.1, q], by simp only [f_X12_look, obs, b10, b01, bm, if_true_, if_false_, eq_self, not_true_eq_false, not_false_eq_true, true_or, or_true, or_false, false_or, and_true, true_and, and_false, false_and, or_self, and_self, Bool.false_eq_true, ite_self, n25, n20, n24, n100, kk1 C, RS.kk H, c_isGauge C W.1, c_isTerm C W.1, c_isFarm C W.1, c_isSeason, c_isPlace, r_isGauge H W.1, r_isTerm H W.1, r_isFarm H W.1, r_isSeason, r_isWeek, r_isPlace, r_isSheet, ci1, ri1, ci2, ri2, ci3, ri3, ci4, ri4, ci5, ri5, ci11, ri11, ci16, ri16, ci98, ri98, ci99, ri99, ci198, ri198, ci9999, ri9999, oa, ob, oc, od, e2, oI_n, RS.gi H, q80, lt80], S, I.up (by omega)⟩
    · have hn : cn σ 41 < 80 := by omega
      obtain ⟨a1, C1⟩ := kadd19 C W.1 (x0 := nI f) (x1 := nI s) (x2 := nI l) (x3 := nI d) hn
      have H1 : RS (ta19 h σ (nI f) (nI s) (nI l) (nI d)) σ := rts19 H
      have e2 := r_lookOf (N := N) H1 W.1 (f := f) (s := s) (by omega)
      rw [e] at e2
      have w1 := rw42 H1 (n := cn σ 41) (x := nI f) hn
      have w2 := rw43 w1.2 (n := cn σ 41) (x := nI s) hn
      have w3 := w2.2.fi 41 (nI (cn σ 41 + 1))
      have w4 := rw44 w3 (n := cn σ 41) (x := nI l) hn
      have w5 := rw45 w4.2 (n := cn σ 41) (x := nI d) hn
      have hq : (nI (cn σ 41) = nI 80) = False := eq_false (by rw [nI_eq (by omega) (by decide)]; exact q)
      have cc1 : (s2 (s2 σ 42 (cn σ 41) (nI f)) 43 (cn σ 41) (nI s)).1 41 = nI (cn σ 41) := hL.1
      have cc5 : (s2 (s2 (s1 (s2 (s2 σ 42 (cn σ 41) (nI f)) 43 (cn σ 41) (nI s)) 41 (nI (cn σ 41 + 1))) 44 (cn σ 41) (nI l)) 45 (cn σ 41) (nI d)).1 41 = nI (cn σ 41 + 1) := rfl
      have hσ : s2 (s2 (s1 (s2 (s2 σ 42 (cn σ 41) (nI f)) 43 (cn σ 41) (nI s)) 41 (nI (cn σ 41 + 1))) 44 (cn σ 41) (nI l)) 45 (cn σ 41) (nI d) = ts19 σ (nI f) (nI s) (nI l) (nI d) := rfl
      have H5 := w5.2
      rw [hσ] at H5
      have S1 : kd (ta19 h σ (nI f) (nI s) (nI l) (nI d)) 9000 = 30 ∧ ln (ta19 h σ (nI f) (nI s) (nI l) (nI d)) 9000 = L ∧ ai (ta19 h σ (nI f) (nI s) (nI l) (nI d)) 9000 = xs := by
        refine ⟨S.1, S.2.1, ?_⟩
        show ai (sai (sai (sai (sai h 35 (4 * (cn σ 41)) (nI f)) 35 (4 * (cn σ 41) + 1) (nI s)) 35 (4 * (cn σ 41) + 2) (nI l)) 35 (4 * (cn σ 41) + 3) (nI d)) 9000 = xs
        rw [ai_sai_ne (by omega), ai_sai_ne (by omega), ai_sai_ne (by omega), ai_sai_ne (by omega)]
        exact S.2.2
      have X' : WX (ts19 σ (nI f) (nI s) (nI l) (nI d)) (n + 1) := X1.of (fun k hk => by
          have tq : ∀ k ∈ xs1, k ≠ 41 := by decide
          exact s1_ne (tq k hk)) (fun k hk => by
          have tq : ∀ k ∈ xs2, k ≠ 42 ∧ k ≠ 43 ∧ k ≠ 44 ∧ k ≠ 45 := by decide
          obtain ⟨t0, t1, t2, t3⟩ := tq k hk
          show (s2 (s2 (s2 (s2 σ 42 (cn σ 41) (nI f)) 43 (cn σ 41) (nI s)) 44 (cn σ 41) (nI l)) 45 (cn σ 41) (nI d)).2 k = σ.2 k
          rw [s2_row t3, s2_row t2, s2_row t1, s2_row t0])
      have y6 : xgi (ta19 h σ (nI f) (nI s) (nI l) (nI d)) 19 8 3 = some (nI (cn σ 41 + 1)) := ki19_3 C1
      refine ⟨nI (cn σ 41 + 1), _, _, _, tr, u, ?_, ?_, S1, I.st C1 (((FRc.a (r := 142) (by omega) (by omega)).trans (FRc.a (r := 143) (by omega) (by omega))).trans ((FRc.f.trans (FRc.a (r := 144) (by omega) (by omega))).trans (FRc.a (r := 145) (by omega) (by omega)))) H5 (wts19 W hn ⟨f, hf, rfl⟩ ⟨s, hs, rfl⟩ ⟨l, hl, rfl⟩ ⟨d, hd, rfl⟩) X' S1 (by omega)⟩
      · simp only [f_X11_look, f_X11_look_b73, f_X11_look_b118, obs, b10, b01, bm, if_true_, if_false_, eq_self, not_true_eq_false, not_false_eq_true, true_or, or_true, or_false, false_or, and_true, true_and, and_false, false_and, or_self, and_self, Bool.false_eq_true, ite_self, n25, n20, n24, n100, kk1 C, RS.kk H, c_isGauge C W.1, c_isTerm C W.1, c_isFarm C W.1, c_isSeason, c_isPlace, r_isGauge H W.1, r_isTerm H W.1, r_isFarm H W.1, r_isSeason, r_isWeek, r_isPlace, r_isSheet, ci1, ri1, ci2, ri2, ci3, ri3, ci4, ri4, ci5, ri5, ci11, ri11, ci16, ri16, ci98, ri98, ci99, ri99, ci198, ri198, ci9999, ri9999, oa, ob, oc, od, kr1_9 C, kr1_9 C1, e1, oI_n, kfull19 C W.1, q, a1, y6]
      · simp only [f_X12_look, f_X12_look_b69, f_X12_look_b107, obs, b10, b01, bm, if_true_, if_false_, eq_self, not_true_eq_false, not_false_eq_true, true_or, or_true, or_false, false_or, and_true, true_and, and_false, false_and, or_self, and_self, Bool.false_eq_true, ite_self, n25, n20, n24, n100, RS.kk H1, r_isFarm H1 W.1, r_isSeason, ri9999, oa, ob, oc, od, e2, oI_n, RS.gi H1, hL.1, lt80, hq, rg42 H1, w1.1, rg43 w1.2, w2.1, RS.gi w2.2, cc1, nI_1, w2.2.pi, rg44 w3, w4.1, rg45 w4.2, w5.1, RS.gi w5.2, cc5]
  · have hi := lookO_lt e
    rw [e] at e1
    have C1 : CS (sai h 35 (4 * i + 2) (nI l)) (s2 σ 44 i (nI l)) tr u := C.of rfl rfl rfl rfl (C.d.wA W.1.B (r := 35) (st := 4) (o := 2) (k := 44) (n := 80) (by decide) (by omega)) (fun r hr => ai_sai_ne (by omega)) (fun j hj => ⟨rfl, rfl⟩) (fun _ _ => rfl) (fun _ _ => rfl) (ks2_row (by decide)) W.1
    have W1 : WV (s2 σ 44 i (nI l)) := W.of (fun _ _ => rfl) (vs2_row (by decide)) (W.2.1.w2_44 ⟨l, hl, rfl⟩) W.2.2.1
    have C2 : CS (sai (sai h 35 (4 * i + 2) (nI l)) 35 (4 * i + 3) (nI d)) (s2 (s2 σ 44 i (nI l)) 45 i (nI d)) tr u := C1.of rfl rfl rfl rfl (C1.d.wA W1.1.B (r := 35) (st := 4) (o := 3) (k := 45) (n := 80) (by decide) (by omega)) (fun r hr => ai_sai_ne (by omega)) (fun j hj => ⟨rfl, rfl⟩) (fun _ _ => rfl) (fun _ _ => rfl) (ks2_row (by decide)) W1.1
    have H1 : RS (sai (sai h 35 (4 * i + 2) (nI l)) 35 (4 * i + 3) (nI d)) σ := rsA (rsA H (by omega)) (by omega)
    have w1 := rw44 H1 (n := i) (x := nI l) (by omega)
    have w2 := rw45 w1.2 (n := i) (x := nI d) (by omega)
    have e2 := r_lookOf (N := N) H1 W.1 (f := f) (s := s) (by omega)
    rw [e] at e2
    have S1 : kd (sai (sai h 35 (4 * i + 2) (nI l)) 35 (4 * i + 3) (nI d)) 9000 = 30 ∧ ln (sai (sai h 35 (4 * i + 2) (nI l)) 35 (4 * i + 3) (nI d)) 9000 = L ∧ ai (sai (sai h 35 (4 * i + 2) (nI l)) 35 (4 * i + 3) (nI d)) 9000 = xs := by
      rw [ai_sai_ne (by omega), ai_sai_ne (by omega)]; exact S
    have cc : (s2 (s2 σ 44 i (nI l)) 45 i (nI d)).1 41 = nI (cn σ 41) := hL.1
    have X2 : WX (s2 σ 44 i (nI l)) (n + 1) := X1.of (fun _ _ => rfl) (xs2_row (by decide))
    have X3 : WX (s2 (s2 σ 44 i (nI l)) 45 i (nI d)) (n + 1) := X2.of (fun _ _ => rfl) (xs2_row (by decide))
    refine ⟨nI (cn σ 41), _, _, _, tr, u, ?_, ?_, S1, I.st C2 ((FRc.a (r := 144) (by omega) (by omega)).trans (FRc.a (r := 145) (by omega) (by omega))) w2.2 (W1.of (fun _ _ => rfl) (vs2_row (by decide)) (W1.2.1.w2_45 ⟨d, hd, rfl⟩) W1.2.2.1) X3 S1 (by omega)⟩
    · simp (disch := omega) only [f_X11_look, f_X11_look_b73, f_X11_look_b118, obs, b10, b01, bm, if_true_, if_false_, eq_self, not_true_eq_false, not_false_eq_true, true_or, or_true, or_false, false_or, and_true, true_and, and_false, false_and, or_self, and_self, Bool.false_eq_true, ite_self, n25, n20, n24, n100, kk1 C, RS.kk H, c_isGauge C W.1, c_isTerm C W.1, c_isFarm C W.1, c_isSeason, c_isPlace, r_isGauge H W.1, r_isTerm H W.1, r_isFarm H W.1, r_isSeason, r_isWeek, r_isPlace, r_isSheet, ci1, ri1, ci2, ri2, ci3, ri3, ci4, ri4, ci5, ri5, ci11, ri11, ci16, ri16, ci98, ri98, ci99, ri99, ci198, ri198, ci9999, ri9999, oa, ob, oc, od, kr1_9 C, kr1_9 C1, kr1_9 C2, e1, oI_s, nI_negF, kp19_2 C, kp19_3 C1, ki19_3 C2, cc]
    · simp (disch := omega) only [f_X12_look, f_X12_look_b69, f_X12_look_b107, obs, b10, b01, bm, if_true_, if_false_, eq_self, not_true_eq_false, not_false_eq_true, true_or, or_true, or_false, false_or, and_true, true_and, and_false, false_and, or_self, and_self, Bool.false_eq_true, ite_self, n25, n20, n24, n100, RS.kk H1, r_isFarm H1 W.1, r_isSeason, ri9999, oa, ob, oc, od, e2, oI_s, nI_negF, rg44 H1, w1.1, rg45 w1.2, w2.1, RS.gi w2.2, cc]
end
