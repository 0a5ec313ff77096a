/-! ===== public: arrive, tables ===== -/
section
variable {L N : Nat} {xs : Nat → Int32} {h h' : AH} {σ σ' : SG} {tr : Nat → Nat} {u n : Nat}

theorem pub_arrive {a b : Int32} (I : INV L xs h σ tr u n) : ∃ v h1 h2 σ' tr' u', f_X11_arrive h 1 a b = some (v, h1) ∧ f_X12_arrive h1 100 a b = some (v, h2) ∧ (kd h1 9000 = 30 ∧ ln h1 9000 = L ∧ ai h1 9000 = xs) ∧ INV L xs h2 σ' tr' u' (n + 1) := by
  obtain ⟨C, H, W, X, S, U⟩ := id I
  have hG := W.1.g
  have hT := W.1.t
  have hF := W.1.f
  have hTl := W.1.tl
  have hP := W.1.p
  obtain ⟨y, hy, ey⟩ := X.2.1
  rcases okC a (n := cn σ 49) (by omega) with oa | ⟨oa, p, hp, rfl⟩
  · exact ⟨-1, h, h, σ, tr, u, by simp only [f_X11_arrive, obs, b10, b01, bm, if_true_, if_false_, eq_self, not_true_eq_false, not_false_eq_true, true_or, or_true, or_false, false_or, and_true, true_and, and_false, false_and, or_self, and_self, Bool.false_eq_true, ite_self, n25, n20, n24, n100, kk1 C, kr1_10 C, c_has20 C W.1, oa], by simp only [f_X12_arrive, obs, b10, b01, bm, if_true_, if_false_, eq_self, not_true_eq_false, not_false_eq_true, true_or, or_true, or_false, false_or, and_true, true_and, and_false, false_and, or_self, and_self, Bool.false_eq_true, ite_self, n25, n20, n24, n100, RS.kk H, r_isPayment H W.1, oa], S, I.up (by omega)⟩
  rcases okC b (n := 2) (by decide) with ob | ⟨ob, l, hl, rfl⟩
  · exact ⟨-2, h, h, σ, tr, u, by simp only [f_X11_arrive, obs, b10, b01, bm, if_true_, if_false_, eq_self, not_true_eq_false, not_false_eq_true, true_or, or_true, or_false, false_or, and_true, true_and, and_false, false_and, or_self, and_self, Bool.false_eq_true, ite_self, n25, n20, n24, n100, kk1 C, kr1_10 C, c_has20 C W.1, ci1, oa, ob], by simp only [f_X12_arrive, obs, b10, b01, bm, if_true_, if_false_, eq_self, not_true_eq_false, not_false_eq_true, true_or, or_true, or_false, false_or, and_true, true_and, and_false, false_and, or_self, and_self, Bool.false_eq_true, ite_self, n25, n20, n24, n100, RS.kk H, r_isPayment H W.1, ri1, oa, ob], S, I.up (by omega)⟩
  obtain ⟨m, hm, em⟩ := wv52 W hp
  have X1 := X.up (m := n + 1) (by omega)
  by_cases q1 : σ.2 53 p = 1
  · have l2 : l = 0 ∨ l = 1 := by omega
    rcases l2 with rfl | rfl
    · rw [il0] at ob ⊢
      have C2 : CS (sai h 36 (4 * p + 3) 3) (s2 σ 53 p 3) tr u := C.of rfl rfl rfl rfl (C.d.wA W.1.B (r := 36) (st := 4) (o := 3) (k := 53) (n := 200) (by decide) (by omega)) (fun r hr => ai_sai_ne (by omega)) (fun j hj => ⟨rfl, rfl⟩) (fun _ _ => rfl) (fun _ _ => rfl) (ks2_row (by decide)) W.1
      have H1 : RS (sai h 36 (4 * p + 3) 3) σ := rsA H (by omega)
      have hw := rw53 H1 (n := p) (x := 3) (by omega)
      have H3 : RS (sfi (sai (sai h 36 (4 * p + 3) 3) 153 p 3) 100 54 (nI y)) (s2 σ 53 p 3) := (hw.2.fi 54 (nI y)).cg (fun k => by
        rw [s1_ite]
        split
        · rename_i e; rw [e]; exact ey
        · rfl) (fun _ _ _ => rfl)
      have S1 : kd (sai h 36 (4 * p + 3) 3) 9000 = 30 ∧ ln (sai h 36 (4 * p + 3) 3) 9000 = L ∧ ai (sai h 36 (4 * p + 3) 3) 9000 = xs := by rw [ai_sai_ne (by omega)]; exact S
      have z1 : ((0 : Int32) = 1) = False := by decide
      have ey2 : (s2 σ 53 p 3).1 54 = nI y := ey
      refine ⟨1, _, _, _, tr, u, ?_, ?_, S1, I.st C2 ((FRc.a (r := 153) (i := p) (x := 3) (by omega) (by omega)).trans (FRc.f (i := 54) (x := nI y))) H3 (W.of (fun _ _ => rfl) (vs2_row (by decide)) (W.2.1.w2_53 ⟨3, by omega, by decide⟩) W.2.2.1) (X1.of (fun _ _ => rfl) (xs2_row (by decide))) S1 (by omega)⟩
      · simp (disch := omega) only [f_X11_arrive, obs, b10, b01, bm, if_true_, if_false_, eq_self, not_true_eq_false, not_false_eq_true, true_or, or_true, or_false, false_or, and_true, true_and, and_false, false_and, or_self, and_self, Bool.false_eq_true, ite_self, n25, n20, n24, n100, kk1 C, kr1_10 C, c_has20 C W.1, ci1, oa, ob, ka20_3 C, q1, kp20_3 C]
      · simp (disch := omega) only [f_X12_arrive, f_X12_arrive_b60, f_X12_arrive_b75, f_X12_arrive_b96, obs, b10, b01, bm, if_true_, if_false_, eq_self, not_true_eq_false, not_false_eq_true, true_or, or_true, or_false, false_or, and_true, true_and, and_false, false_and, or_self, and_self, Bool.false_eq_true, ite_self, n25, n20, n24, n100, RS.kk H1, r_isPayment H1 W.1, ri1, oa, ob, rg53 H1, ra53 H1, q1, z1, hw.1, RS.gi hw.2, ey2, Int32.add_zero, hw.2.pi]
    · rw [il1] at ob ⊢
      have z10 : ((1 : Int32) = 0) = False := by decide
      have ty : (nI y).toInt = y := nI_toInt (by omega)
      have tm : (nI m).toInt = m := nI_toInt (by omega)
      have hs : ((nI y).toInt64 + (nI m).toInt64).toInt = y + m := by
        rw [Int64.toInt_add, Int32.toInt_toInt64, Int32.toInt_toInt64, ty, tm]
        apply Int.bmod_eq_of_le <;> omega
      have w2' : (lg_cmp ((nI y).toInt64 + (nI m).toInt64) 2000000000 ≤ 0) ↔ ((y : Int) + m ≤ 2000000000) := by
        rw [cmp_le, Int64.le_iff_toInt_le, hs, show (2000000000 : Int64).toInt = 2000000000 by decide]
      have w3' : (nI m ≤ 2000000000 - nI y) ↔ ((y : Int) + m ≤ 2000000000) := by
        rw [Int32.le_iff_toInt_le, tm, i3_sub (by rw [ty, show (2000000000 : Int32).toInt = 2000000000 by decide]; omega) (by rw [ty, show (2000000000 : Int32).toInt = 2000000000 by decide]; omega), ty, show (2000000000 : Int32).toInt = 2000000000 by decide]
        omega
      by_cases q2 : (y : Int) + m ≤ 2000000000
      · have w2 := eq_true (w2'.mpr q2)
        have w3 := eq_true (w3'.mpr q2)
        have hadd : nI y + nI m = nI (y + m) := nI_add y m
        have x1 : xpi h 1 12 13 (nI (y + m)) = some (sfi h 1 13 (nI (y + m))) := by unfold xpi; rw [if_pos (kk1 C)]
        have C1 : CS (sfi h 1 13 (nI (y + m))) (s1 σ 54 (nI (y + m))) tr u := C.of rfl rfl rfl rfl (C.d.wI W.1.F (r := 1) (f := 13) (k := 54) (by decide) (by decide)) (fun _ _ => rfl) (fun j hj => ⟨by rw [fi_sfi_ne (by omega)], fi_sfi_ne (by omega)⟩) (fun r hr => fi_sfi_ne (by omega)) (ks1_s1 (by decide)) (fun _ _ => rfl) W.1
        have W1 : WV (s1 σ 54 (nI (y + m))) := W.of (vs1_s1 (by decide)) (fun _ _ => rfl) (W.2.1.w1 (by decide)) W.2.2.1
        have X' : WX (s1 σ 54 (nI (y + m))) (n + 1) := ⟨X1.1, ⟨y + m, by omega, rfl⟩, X1.2.2.1, X1.2.2.2.1, X1.2.2.2.2.1, X1.2.2.2.2.2.1, X1.2.2.2.2.2.2⟩
        have C2 : CS (sai (sfi h 1 13 (nI (y + m))) 36 (4 * p + 3) 2) (s2 (s1 σ 54 (nI (y + m))) 53 p 2) tr u := C1.of rfl rfl rfl rfl (C1.d.wA W1.1.B (r := 36) (st := 4) (o := 3) (k := 53) (n := 200) (by decide) (by omega)) (fun r hr => ai_sai_ne (by omega)) (fun j hj => ⟨rfl, rfl⟩) (fun _ _ => rfl) (fun _ _ => rfl) (ks2_row (by decide)) W1.1
        have H1 : RS (sai (sfi h 1 13 (nI (y + m))) 36 (4 * p + 3) 2) σ := rsA (rsF H (by omega)) (by omega)
        have hw := rw53 H1 (n := p) (x := 2) (by omega)
        have H3 : RS (sfi (sai (sai (sfi h 1 13 (nI (y + m))) 36 (4 * p + 3) 2) 153 p 2) 100 54 (nI (y + m))) (s2 (s1 σ 54 (nI (y + m))) 53 p 2) := (hw.2.fi 54 (nI (y + m))).cg (fun _ => rfl) (fun _ _ _ => rfl)
        have S1 : kd (sai (sfi h 1 13 (nI (y + m))) 36 (4 * p + 3) 2) 9000 = 30 ∧ ln (sai (sfi h 1 13 (nI (y + m))) 36 (4 * p + 3) 2) 9000 = L ∧ ai (sai (sfi h 1 13 (nI (y + m))) 36 (4 * p + 3) 2) 9000 = xs := by rw [ai_sai_ne (by omega)]; exact S
        have ey2 : (s2 σ 53 p 2).1 54 = nI y := ey
        have em2 : (s2 σ 53 p 2).2 52 p = nI m := em
        refine ⟨1, _, _, _, tr, u, ?_, ?_, S1, I.st C2 ((FRc.a (r := 153) (i := p) (x := 2) (by omega) (by omega)).trans (FRc.f (i := 54) (x := nI (y + m)))) H3 (W1.of (fun _ _ => rfl) (vs2_row (by decide)) (W1.2.1.w2_53 ⟨2, by omega, by decide⟩) W1.2.2.1) (X'.of (fun _ _ => rfl) (xs2_row (by decide))) S1 (by omega)⟩
        · simp (disch := omega) only [f_X11_arrive, obs, b10, b01, bm, if_true_, if_false_, eq_self, not_true_eq_false, not_false_eq_true, true_or, or_true, or_false, false_or, and_true, true_and, and_false, false_and, or_self, and_self, Bool.false_eq_true, ite_self, n25, n20, n24, n100, kk1 C, kr1_10 C, c_has20 C W.1, ci1, oa, ob, ka20_3 C, q1, ka20_2 C, em, ki1_13 C, ey, w3, hadd, x1, xgr_sfi, kp20_3 C1]
        · simp (disch := omega) only [f_X12_arrive, f_X12_arrive_b60, f_X12_arrive_b75, f_X12_arrive_b96, obs, b10, b01, bm, if_true_, if_false_, eq_self, not_true_eq_false, not_false_eq_true, true_or, or_true, or_false, false_or, and_true, true_and, and_false, false_and, or_self, and_self, Bool.false_eq_true, ite_self, n25, n20, n24, n100, RS.kk H1, r_isPayment H1 W.1, ri1, oa, ob, rg53 H1, ra53 H1, q1, RS.gi H1, ey, rg52 H1, ra52 H1, em, w2, hw.1, RS.gi hw.2, ey2, rg52 hw.2, ra52 hw.2, em2, hadd, hw.2.pi]
      · have w2 := eq_false (fun e => q2 (w2'.mp e))
        have w3 := eq_false (fun e => q2 (w3'.mp e))
        refine ⟨-3, h, h, σ, tr, u, ?_, ?_, S, I.up (by omega)⟩
        · simp (disch := omega) only [f_X11_arrive, obs, b10, b01, bm, if_true_, if_false_, eq_self, not_true_eq_false, not_false_eq_true, true_or, or_true, or_false, false_or, and_true, true_and, and_false, false_and, or_self, and_self, Bool.false_eq_true, ite_self, n25, n20, n24, n100, kk1 C, kr1_10 C, c_has20 C W.1, ci1, oa, ob, ka20_3 C, q1, ka20_2 C, em, ki1_13 C, ey, w3]
        · simp (disch := omega) only [f_X12_arrive, obs, b10, b01, bm, if_true_, if_false_, eq_self, not_true_eq_false, not_false_eq_true, true_or, or_true, or_false, false_or, and_true, true_and, and_false, false_and, or_self, and_self, Bool.false_eq_true, ite_self, n25, n20, n24, n100, RS.kk H, r_isPayment H W.1, ri1, oa, ob, rg53 H, ra53 H, q1, RS.gi H, ey, rg52 H, ra52 H, em, w2]
  · refine ⟨-3, h, h, σ, tr, u, ?_, ?_, S, I.up (by omega)⟩
    · simp (disch := omega) only [f_X11_arrive, obs, b10, b01, bm, if_true_, if_false_, eq_self, not_true_eq_false, not_false_eq_true, true_or, or_true, or_false, false_or, and_true, true_and, and_false, false_and, or_self, and_self, Bool.false_eq_true, ite_self, n25, n20, n24, n100, kk1 C, kr1_10 C, c_has20 C W.1, ci1, oa, ob, ka20_3 C, q1]
    · simp (disch := omega) only [f_X12_arrive, obs, b10, b01, bm, if_true_, if_false_, eq_self, not_true_eq_false, not_false_eq_true, true_or, or_true, or_false, false_or, and_true, true_and, and_false, false_and, or_self, and_self, Bool.false_eq_true, ite_self, n25, n20, n24, n100, RS.kk H, r_isPayment H W.1, ri1, oa, ob, rg53 H, ra53 H, q1]
def ta18 (h : AH) (σ : SG) (x0 x1 x2 x3 : Int32) : AH := sfi (sai (sai (sai (sai h 34 (4 * (cn σ 36)) x0) 34 (4 * (cn σ 36) + 1) x1) 34 (4 * (cn σ 36) + 2) x2) 34 (4 * (cn σ 36) + 3) x3) 18 3 (nI ((cn σ 36) + 1))
def ts18 (σ : SG) (x0 x1 x2 x3 : Int32) : SG := s1 (s2 (s2 (s2 (s2 σ 37 (cn σ 36) x0) 39 (cn σ 36) x1) 38 (cn σ 36) x2) 40 (cn σ 36) x3) 36 (nI ((cn σ 36) + 1))
theorem kadd18 (C : CS h σ tr u) (W : CT σ) {x0 x1 x2 x3 : Int32} (hn : (cn σ 36) < 60) : f_X7_add h 18 x0 x1 x2 x3 = some (nI (cn σ 36), ta18 h σ x0 x1 x2 x3) ∧ CS (ta18 h σ x0 x1 x2 x3) (ts18 σ x0 x1 x2 x3) tr u := by
  have hc := W.c
  have k34 := kk34 C
  have kt := kk18 C
  have ll := kl C (r := 34) (n := 240) (by decide)
  have y1 : xis h 34 (nI (4 * (cn σ 36))) x0 = some (sai h 34 (4 * (cn σ 36)) x0) := xis_of k34 ll (by omega) (by decide)
  have y2 : xis (sai h 34 (4 * (cn σ 36)) x0) 34 (nI (4 * (cn σ 36) + 1)) x1 = some (sai (sai h 34 (4 * (cn σ 36)) x0) 34 (4 * (cn σ 36) + 1) x1) := xis_of k34 ll (by omega) (by decide)
  have y3 : xis (sai (sai h 34 (4 * (cn σ 36)) x0) 34 (4 * (cn σ 36) + 1) x1) 34 (nI (4 * (cn σ 36) + 2)) x2 = some (sai (sai (sai h 34 (4 * (cn σ 36)) x0) 34 (4 * (cn σ 36) + 1) x1) 34 (4 * (cn σ 36) + 2) x2) := xis_of k34 ll (by omega) (by decide)
  have y4 : xis (sai (sai (sai h 34 (4 * (cn σ 36)) x0) 34 (4 * (cn σ 36) + 1) x1) 34 (4 * (cn σ 36) + 2) x2) 34 (nI (4 * (cn σ 36) + 3)) x3 = some (sai (sai (sai (sai h 34 (4 * (cn σ 36)) x0) 34 (4 * (cn σ 36) + 1) x1) 34 (4 * (cn σ 36) + 2) x2) 34 (4 * (cn σ 36) + 3) x3) := xis_of k34 ll (by omega) (by decide)
  have y5 : xpi (sai (sai (sai (sai h 34 (4 * (cn σ 36)) x0) 34 (4 * (cn σ 36) + 1) x1) 34 (4 * (cn σ 36) + 2) x2) 34 (4 * (cn σ 36) + 3) x3) 18 8 3 (nI ((cn σ 36) + 1)) = some (ta18 h σ x0 x1 x2 x3) := by unfold xpi; rw [if_pos (show kd (sai (sai (sai (sai h 34 (4 * (cn σ 36)) x0) 34 (4 * (cn σ 36) + 1) x1) 34 (4 * (cn σ 36) + 2) x2) 34 (4 * (cn σ 36) + 3) x3) 18 = 8 + 1 from kt)]; rfl
  have y6 : xgi (ta18 h σ x0 x1 x2 x3) 18 8 3 = some (nI ((cn σ 36) + 1)) := by unfold xgi; rw [if_pos (show kd (ta18 h σ x0 x1 x2 x3) 18 = 8 + 1 from kt)]; unfold ta18; rw [fi_sfi, if_pos ⟨rfl, rfl⟩]
  have em : nI (cn σ 36) * 4 = nI (4 * (cn σ 36)) := by rw [show (4 : Int32) = nI 4 by decide, nI_mul, Nat.mul_comm]
  have D1 := C.d.wA W.B (r := 34) (st := 4) (o := 0) (k := 37) (n := 60) (x := x0) (by decide) hn
  rw [Nat.add_zero] at D1
  have D2 := D1.wA W.B (r := 34) (st := 4) (o := 1) (k := 39) (n := 60) (x := x1) (by decide) hn
  have D3 := D2.wA W.B (r := 34) (st := 4) (o := 2) (k := 38) (n := 60) (x := x2) (by decide) hn
  have D4 := D3.wA W.B (r := 34) (st := 4) (o := 3) (k := 40) (n := 60) (x := x3) (by decide) hn
  have D5 := D4.wI W.F (r := 18) (f := 3) (k := 36) (x := nI ((cn σ 36) + 1)) (by decide) (by decide)
  refine ⟨?_, C.of rfl rfl rfl rfl D5 (fun r hr => ?_) (fun j hj => ⟨?_, ?_⟩) (fun r hr => ?_) (ks1_s1 (by decide)) (fun k hk => ?_) W⟩
  · have a1 : nI (4 * (cn σ 36)) + 2 = nI (4 * (cn σ 36) + 2) := by rw [lt2, nI_add]
    have a2 : nI (4 * (cn σ 36)) + 3 = nI (4 * (cn σ 36) + 3) := by rw [lt3, nI_add]
    have a3 : nI ((cn σ 36) + 1) - 1 = nI (cn σ 36) := nI_pred _
    simp only [f_X7_add, obs, b10, b01, bm, if_true_, if_false_, eq_self, not_true_eq_false, not_false_eq_true, true_or, or_true, or_false, false_or, and_true, true_and, and_false, false_and, or_self, and_self, Bool.false_eq_true, ite_self, n25, n20, n24, n100, kk18 C, ki18_3 C, hc.1, kw18 C, kr18_2 C, em, y1, xgr_sai, nI_1, y2, a1, y3, a2, y4, xgi_sai, y5, y6, a3]
  · show ai (sai (sai (sai (sai h 34 (4 * (cn σ 36)) x0) 34 (4 * (cn σ 36) + 1) x1) 34 (4 * (cn σ 36) + 2) x2) 34 (4 * (cn σ 36) + 3) x3) r = ai h r
    rw [ai_sai_ne (by omega), ai_sai_ne (by omega), ai_sai_ne (by omega), ai_sai_ne (by omega)]
  · show fi (sfi (sai (sai (sai (sai h 34 (4 * (cn σ 36)) x0) 34 (4 * (cn σ 36) + 1) x1) 34 (4 * (cn σ 36) + 2) x2) 34 (4 * (cn σ 36) + 3) x3) 18 3 (nI ((cn σ 36) + 1))) (300 + j) 0 = fi (sai (sai (sai (sai h 34 (4 * (cn σ 36)) x0) 34 (4 * (cn σ 36) + 1) x1) 34 (4 * (cn σ 36) + 2) x2) 34 (4 * (cn σ 36) + 3) x3) (300 + j) 0
    rw [fi_sfi_ne (by omega)]
  · show fi (sfi (sai (sai (sai (sai h 34 (4 * (cn σ 36)) x0) 34 (4 * (cn σ 36) + 1) x1) 34 (4 * (cn σ 36) + 2) x2) 34 (4 * (cn σ 36) + 3) x3) 18 3 (nI ((cn σ 36) + 1))) (360 + j) = fi (sai (sai (sai (sai h 34 (4 * (cn σ 36)) x0) 34 (4 * (cn σ 36) + 1) x1) 34 (4 * (cn σ 36) + 2) x2) 34 (4 * (cn σ 36) + 3) x3) (360 + j)
    rw [fi_sfi_ne (by omega)]
  · show fi (sfi (sai (sai (sai (sai h 34 (4 * (cn σ 36)) x0) 34 (4 * (cn σ 36) + 1) x1) 34 (4 * (cn σ 36) + 2) x2) 34 (4 * (cn σ 36) + 3) x3) 18 3 (nI ((cn σ 36) + 1))) r = fi (sai (sai (sai (sai h 34 (4 * (cn σ 36)) x0) 34 (4 * (cn σ 36) + 1) x1) 34 (4 * (cn σ 36) + 2) x2) 34 (4 * (cn σ 36) + 3) x3) r
    rw [fi_sfi_ne (by omega)]
  · show (s2 (s2 (s2 (s2 σ 37 (cn σ 36) x0) 39 (cn σ 36) x1) 38 (cn σ 36) x2) 40 (cn σ 36) x3).2 k = σ.2 k
    have t : ∀ k ∈ ks2, k ≠ 37 ∧ k ≠ 39 ∧ k ≠ 38 ∧ k ≠ 40 := by decide
    obtain ⟨t0, t1, t2, t3⟩ := t k hk
    rw [s2_row t3, s2_row t2, s2_row t1, s2_row t0]
theorem kfull18 (C : CS h σ tr u) (W : CT σ) : f_X7_isFull h 18 = some (if cn σ 36 = 60 then 1 else 0) := by
  have hc := W.c
  have l : (60 : Int32) = nI 60 := by decide
  by_cases q : cn σ 36 = 60
  · have q2 : ¬ cn σ 36 < 60 := by omega
    simp (disch := omega) only [f_X7_isFull, obs, b10, b01, bm, if_true_, if_false_, eq_self, not_true_eq_false, not_false_eq_true, true_or, or_true, or_false, false_or, and_true, true_and, and_false, false_and, or_self, and_self, Bool.false_eq_true, ite_self, n25, n20, n24, n100, kk18 C, ki18_3 C, hc.1, km18 C, l, nI_ltI, q2, q, Nat.lt_irrefl]
  · have q2 : cn σ 36 < 60 := by omega
    simp (disch := omega) only [f_X7_isFull, obs, b10, b01, bm, if_true_, if_false_, eq_self, not_true_eq_false, not_false_eq_true, true_or, or_true, or_false, false_or, and_true, true_and, and_false, false_and, or_self, and_self, Bool.false_eq_true, ite_self, n25, n20, n24, n100, kk18 C, ki18_3 C, hc.1, km18 C, l, nI_ltI, q2, q]
def ta19 (h : AH) (σ : SG) (x0 x1 x2 x3 : Int32) : AH := sfi (sai (sai (sai (sai h 35 (4 * (cn σ 41)) x0) 35 (4 * (cn σ 41) + 1) x1) 35 (4 * (cn σ 41) + 2) x2) 35 (4 * (cn σ 41) + 3) x3) 19 3 (nI ((cn σ 41) + 1))
def ts19 (σ : SG) (x0 x1 x2 x3 : Int32) : SG := s1 (s2 (s2 (s2 (s2 σ 42 (cn σ 41) x0) 43 (cn σ 41) x1) 44 (cn σ 41) x2) 45 (cn σ 41) x3) 41 (nI ((cn σ 41) + 1))
theorem kadd19 (C : CS h σ tr u) (W : CT σ) {x0 x1 x2 x3 : Int32} (hn : (cn σ 41) < 80) : f_X7_add h 19 x0 x1 x2 x3 = some (nI (cn σ 41), ta19 h σ x0 x1 x2 x3) ∧ CS (ta19 h σ x0 x1 x2 x3) (ts19 σ x0 x1 x2 x3) tr u := by
  have hc := W.l
  have k35 := kk35 C
  have kt := kk19 C
  have ll := kl C (r := 35) (n := 320) (by decide)
  have y1 : xis h 35 (nI (4 * (cn σ 41))) x0 = some (sai h 35 (4 * (cn σ 41)) x0) := xis_of k35 ll (by omega) (by decide)
  have y2 : xis (sai h 35 (4 * (cn σ 41)) x0) 35 (nI (4 * (cn σ 41) + 1)) x1 = some (sai (sai h 35 (4 * (cn σ 41)) x0) 35 (4 * (cn σ 41) + 1) x1) := xis_of k35 ll (by omega) (by decide)
  have y3 : xis (sai (sai h 35 (4 * (cn σ 41)) x0) 35 (4 * (cn σ 41) + 1) x1) 35 (nI (4 * (cn σ 41) + 2)) x2 = some (sai (sai (sai h 35 (4 * (cn σ 41)) x0) 35 (4 * (cn σ 41) + 1) x1) 35 (4 * (cn σ 41) + 2) x2) := xis_of k35 ll (by omega) (by decide)
  have y4 : xis (sai (sai (sai h 35 (4 * (cn σ 41)) x0) 35 (4 * (cn σ 41) + 1) x1) 35 (4 * (cn σ 41) + 2) x2) 35 (nI (4 * (cn σ 41) + 3)) x3 = some (sai (sai (sai (sai h 35 (4 * (cn σ 41)) x0) 35 (4 * (cn σ 41) + 1) x1) 35 (4 * (cn σ 41) + 2) x2) 35 (4 * (cn σ 41) + 3) x3) := xis_of k35 ll (by omega) (by decide)
  have y5 : xpi (sai (sai (sai (sai h 35 (4 * (cn σ 41)) x0) 35 (4 * (cn σ 41) + 1) x1) 35 (4 * (cn σ 41) + 2) x2) 35 (4 * (cn σ 41) + 3) x3) 19 8 3 (nI ((cn σ 41) + 1)) = some (ta19 h σ x0 x1 x2 x3) := by unfold xpi; rw [if_pos (show kd (sai (sai (sai (sai h 35 (4 * (cn σ 41)) x0) 35 (4 * (cn σ 41) + 1) x1) 35 (4 * (cn σ 41) + 2) x2) 35 (4 * (cn σ 41) + 3) x3) 19 = 8 + 1 from kt)]; rfl
  have y6 : xgi (ta19 h σ x0 x1 x2 x3) 19 8 3 = some (nI ((cn σ 41) + 1)) := by unfold xgi; rw [if_pos (show kd (ta19 h σ x0 x1 x2 x3) 19 = 8 + 1 from kt)]; unfold ta19; rw [fi_sfi, if_pos ⟨rfl, rfl⟩]
  have em : nI (cn σ 41) * 4 = nI (4 * (cn σ 41)) := by rw [show (4 : Int32) = nI 4 by decide, nI_mul, Nat.mul_comm]
  have D1 := C.d.wA W.B (r := 35) (st := 4) (o := 0) (k := 42) (n := 80) (x := x0) (by decide) hn
  rw [Nat.add_zero] at D1
  have D2 := D1.wA W.B (r := 35) (st := 4) (o := 1) (k := 43) (n := 80) (x := x1) (by decide) hn
  have D3 := D2.wA W.B (r := 35) (st := 4) (o := 2) (k := 44) (n := 80) (x := x2) (by decide) hn
  have D4 := D3.wA W.B (r := 35) (st := 4) (o := 3) (k := 45) (n := 80) (x := x3) (by decide) hn
  have D5 := D4.wI W.F (r := 19) (f := 3) (k := 41) (x := nI ((cn σ 41) + 1)) (by decide) (by decide)
  refine ⟨?_, C.of rfl rfl rfl rfl D5 (fun r hr => ?_) (fun j hj => ⟨?_, ?_⟩) (fun r hr => ?_) (ks1_s1 (by decide)) (fun k hk => ?_) W⟩
  · have a1 : nI (4 * (cn σ 41)) + 2 = nI (4 * (cn σ 41) + 2) := by rw [lt2, nI_add]
    have a2 : nI (4 * (cn σ 41)) + 3 = nI (4 * (cn σ 41) + 3) := by rw [lt3, nI_add]
    have a3 : nI ((cn σ 41) + 1) - 1 = nI (cn σ 41) := nI_pred _
    simp only [f_X7_add, obs, b10, b01, bm, if_true_, if_false_, eq_self, not_true_eq_false, not_false_eq_true, true_or, or_true, or_false, false_or, and_true, true_and, and_false, false_and, or_self, and_self, Bool.false_eq_true, ite_self, n25, n20, n24, n100, kk19 C, ki19_3 C, hc.1, kw19 C, kr19_2 C, em, y1, xgr_sai, nI_1, y2, a1, y3, a2, y4, xgi_sai, y5, y6, a3]
  · show ai (sai (sai (sai (sai h 35 (4 * (cn σ 41)) x0) 35 (4 * (cn σ 41) + 1) x1) 35 (4 * (cn σ 41) + 2) x2) 35 (4 * (cn σ 41) + 3) x3) r = ai h r
    rw [ai_sai_ne (by omega), ai_sai_ne (by omega), ai_sai_ne (by omega), ai_sai_ne (by omega)]
  · show fi (sfi (sai (sai (sai (sai h 35 (4 * (cn σ 41)) x0) 35 (4 * (cn σ 41) + 1) x1) 35 (4 * (cn σ 41) + 2) x2) 35 (4 * (cn σ 41) + 3) x3) 19 3 (nI ((cn σ 41) + 1))) (300 + j) 0 = fi (sai (sai (sai (sai h 35 (4 * (cn σ 41)) x0) 35 (4 * (cn σ 41) + 1) x1) 35 (4 * (cn σ 41) + 2) x2) 35 (4 * (cn σ 41) + 3) x3) (300 + j) 0
    rw [fi_sfi_ne (by omega)]
  · show fi (sfi (sai (sai (sai (sai h 35 (4 * (cn σ 41)) x0) 35 (4 * (cn σ 41) + 1) x1) 35 (4 * (cn σ 41) + 2) x2) 35 (4 * (cn σ 41) + 3) x3) 19 3 (nI ((cn σ 41) + 1))) (360 + j) = fi (sai (sai (sai (sai h 35 (4 * (cn σ 41)) x0) 35 (4 * (cn σ 41) + 1) x1) 35 (4 * (cn σ 41) + 2) x2) 35 (4 * (cn σ 41) + 3) x3) (360 + j)
    rw [fi_sfi_ne (by omega)]
  · show fi (sfi (sai (sai (sai (sai h 35 (4 * (cn σ 41)) x0) 35 (4 * (cn σ 41) + 1) x1) 35 (4 * (cn σ 41) + 2) x2) 35 (4 * (cn σ 41) + 3) x3) 19 3 (nI ((cn σ 41) + 1))) r = fi (sai (sai (sai (sai h 35 (4 * (cn σ 41)) x0) 35 (4 * (cn σ 41) + 1) x1) 35 (4 * (cn σ 41) + 2) x2) 35 (4 * (cn σ 41) + 3) x3) r
    rw [fi_sfi_ne (by omega)]
  · show (s2 (s2 (s2 (s2 σ 42 (cn σ 41) x0) 43 (cn σ 41) x1) 44 (cn σ 41) x2) 45 (cn σ 41) x3).2 k = σ.2 k
    have t : ∀ k ∈ ks2, k ≠ 42 ∧ k ≠ 43 ∧ k ≠ 44 ∧ k ≠ 45 := by decide
    obtain ⟨t0, t1, t2, t3⟩ := t k hk
    rw [s2_row t3, s2_row t2, s2_row t1, s2_row t0]
theorem kfull19 (C : CS h σ tr u) (W : CT σ) : f_X7_isFull h 19 = some (if cn σ 41 = 80 then 1 else 0) := by
  have hc := W.l
  have l : (80 : Int32) = nI 80 := by decide
  by_cases q : cn σ 41 = 80
  · have q2 : ¬ cn σ 41 < 80 := by omega
    simp (disch := omega) only [f_X7_isFull, obs, b10, b01, bm, if_true_, if_false_, eq_self, not_true_eq_false, not_false_eq_true, true_or, or_true, or_false, false_or, and_true, true_and, and_false, false_and, or_self, and_self, Bool.false_eq_true, ite_self, n25, n20, n24, n100, kk19 C, ki19_3 C, hc.1, km19 C, l, nI_ltI, q2, q, Nat.lt_irrefl]
  · have q2 : cn σ 41 < 80 := by omega
    simp (disch := omega) only [f_X7_isFull, obs, b10, b01, bm, if_true_, if_false_, eq_self, not_true_eq_false, not_false_eq_true, true_or, or_true, or_false, false_or, and_true, true_and, and_false, false_and, or_self, and_self, Bool.false_eq_true, ite_self, n25, n20, n24, n100, kk19 C, ki19_3 C, hc.1, km19 C, l, nI_ltI, q2, q]
def ta20 (h : AH) (σ : SG) (x0 x1 x2 x3 : Int32) : AH := sfi (sai (sai (sai (sai h 36 (4 * (cn σ 49)) x0) 36 (4 * (cn σ 49) + 1) x1) 36 (4 * (cn σ 49) + 2) x2) 36 (4 * (cn σ 49) + 3) x3) 20 3 (nI ((cn σ 49) + 1))
def ts20 (σ : SG) (x0 x1 x2 x3 : Int32) : SG := s1 (s2 (s2 (s2 (s2 σ 50 (cn σ 49) x0) 51 (cn σ 49) x1) 52 (cn σ 49) x2) 53 (cn σ 49) x3) 49 (nI ((cn σ 49) + 1))
theorem kadd20 (C : CS h σ tr u) (W : CT σ) {x0 x1 x2 x3 : Int32} (hn : (cn σ 49) < 200) : f_X7_add h 20 x0 x1 x2 x3 = some (nI (cn σ 49), ta20 h σ x0 x1 x2 x3) ∧ CS (ta20 h σ x0 x1 x2 x3) (ts20 σ x0 x1 x2 x3) tr u := by
  have hc := W.p
  have k36 := kk36 C
  have kt := kk20 C
  have ll := kl C (r := 36) (n := 800) (by decide)
  have y1 : xis h 36 (nI (4 * (cn σ 49))) x0 = some (sai h 36 (4 * (cn σ 49)) x0) := xis_of k36 ll (by omega) (by decide)
  have y2 : xis (sai h 36 (4 * (cn σ 49)) x0) 36 (nI (4 * (cn σ 49) + 1)) x1 = some (sai (sai h 36 (4 * (cn σ 49)) x0) 36 (4 * (cn σ 49) + 1) x1) := xis_of k36 ll (by omega) (by decide)
  have y3 : xis (sai (sai h 36 (4 * (cn σ 49)) x0) 36 (4 * (cn σ 49) + 1) x1) 36 (nI (4 * (cn σ 49) + 2)) x2 = some (sai (sai (sai h 36 (4 * (cn σ 49)) x0) 36 (4 * (cn σ 49) + 1) x1) 36 (4 * (cn σ 49) + 2) x2) := xis_of k36 ll (by omega) (by decide)
  have y4 : xis (sai (sai (sai h 36 (4 * (cn σ 49)) x0) 36 (4 * (cn σ 49) + 1) x1) 36 (4 * (cn σ 49) + 2) x2) 36 (nI (4 * (cn σ 49) + 3)) x3 = some (sai (sai (sai (sai h 36 (4 * (cn σ 49)) x0) 36 (4 * (cn σ 49) + 1) x1) 36 (4 * (cn σ 49) + 2) x2) 36 (4 * (cn σ 49) + 3) x3) := xis_of k36 ll (by omega) (by decide)
  have y5 : xpi (sai (sai (sai (sai h 36 (4 * (cn σ 49)) x0) 36 (4 * (cn σ 49) + 1) x1) 36 (4 * (cn σ 49) + 2) x2) 36 (4 * (cn σ 49) + 3) x3) 20 8 3 (nI ((cn σ 49) + 1)) = some (ta20 h σ x0 x1 x2 x3) := by unfold xpi; rw [if_pos (show kd (sai (sai (sai (sai h 36 (4 * (cn σ 49)) x0) 36 (4 * (cn σ 49) + 1) x1) 36 (4 * (cn σ 49) + 2) x2) 36 (4 * (cn σ 49) + 3) x3) 20 = 8 + 1 from kt)]; rfl
  have y6 : xgi (ta20 h σ x0 x1 x2 x3) 20 8 3 = some (nI ((cn σ 49) + 1)) := by unfold xgi; rw [if_pos (show kd (ta20 h σ x0 x1 x2 x3) 20 = 8 + 1 from kt)]; unfold ta20; rw [fi_sfi, if_pos ⟨rfl, rfl⟩]
  have em : nI (cn σ 49) * 4 = nI (4 * (cn σ 49)) := by rw [show (4 : Int32) = nI 4 by decide, nI_mul, Nat.mul_comm]
  have D1 := C.d.wA W.B (r := 36) (st := 4) (o := 0) (k := 50) (n := 200) (x := x0) (by decide) hn
  rw [Nat.add_zero] at D1
  have D2 := D1.wA W.B (r := 36) (st := 4) (o := 1) (k := 51) (n := 200) (x := x1) (by decide) hn
  have D3 := D2.wA W.B (r := 36) (st := 4) (o := 2) (k := 52) (n := 200) (x := x2) (by decide) hn
  have D4 := D3.wA W.B (r := 36) (st := 4) (o := 3) (k := 53) (n := 200) (x := x3) (by decide) hn
  have D5 := D4.wI W.F (r := 20) (f := 3) (k := 49) (x := nI ((cn σ 49) + 1)) (by decide) (by decide)
  refine ⟨?_, C.of rfl rfl rfl rfl D5 (fun r hr => ?_) (fun j hj => ⟨?_, ?_⟩) (fun r hr => ?_) (ks1_s1 (by decide)) (fun k hk => ?_) W⟩
  · have a1 : nI (4 * (cn σ 49)) + 2 = nI (4 * (cn σ 49) + 2) := by rw [lt2, nI_add]
    have a2 : nI (4 * (cn σ 49)) + 3 = nI (4 * (cn σ 49) + 3) := by rw [lt3, nI_add]
    have a3 : nI ((cn σ 49) + 1) - 1 = nI (cn σ 49) := nI_pred _
    simp only [f_X7_add, obs, b10, b01, bm, if_true_, if_false_, eq_self, not_true_eq_false, not_false_eq_true, true_or, or_true, or_false, false_or, and_true, true_and, and_false, false_and, or_self, and_self, Bool.false_eq_true, ite_self, n25, n20, n24, n100, kk20 C, ki20_3 C, hc.1, kw20 C, kr20_2 C, em, y1, xgr_sai, nI_1, y2, a1, y3, a2, y4, xgi_sai, y5, y6, a3]
  · show ai (sai (sai (sai (sai h 36 (4 * (cn σ 49)) x0) 36 (4 * (cn σ 49) + 1) x1) 36 (4 * (cn σ 49) + 2) x2) 36 (4 * (cn σ 49) + 3) x3) r = ai h r
    rw [ai_sai_ne (by omega), ai_sai_ne (by omega), ai_sai_ne (by omega), ai_sai_ne (by omega)]
  · show fi (sfi (sai (sai (sai (sai h 36 (4 * (cn σ 49)) x0) 36 (4 * (cn σ 49) + 1) x1) 36 (4 * (cn σ 49) + 2) x2) 36 (4 * (cn σ 49) + 3) x3) 20 3 (nI ((cn σ 49) + 1))) (300 + j) 0 = fi (sai (sai (sai (sai h 36 (4 * (cn σ 49)) x0) 36 (4 * (cn σ 49) + 1) x1) 36 (4 * (cn σ 49) + 2) x2) 36 (4 * (cn σ 49) + 3) x3) (300 + j) 0
    rw [fi_sfi_ne (by omega)]
  · show fi (sfi (sai (sai (sai (sai h 36 (4 * (cn σ 49)) x0) 36 (4 * (cn σ 49) + 1) x1) 36 (4 * (cn σ 49) + 2) x2) 36 (4 * (cn σ 49) + 3) x3) 20 3 (nI ((cn σ 49) + 1))) (360 + j) = fi (sai (sai (sai (sai h 36 (4 * (cn σ 49)) x0) 36 (4 * (cn σ 49) + 1) x1) 36 (4 * (cn σ 49) + 2) x2) 36 (4 * (cn σ 49) + 3) x3) (360 + j)
    rw [fi_sfi_ne (by omega)]
  · show fi (sfi (sai (sai (sai (sai h 36 (4 * (cn σ 49)) x0) 36 (4 * (cn σ 49) + 1) x1) 36 (4 * (cn σ 49) + 2) x2) 36 (4 * (cn σ 49) + 3) x3) 20 3 (nI ((cn σ 49) + 1))) r = fi (sai (sai (sai (sai h 36 (4 * (cn σ 49)) x0) 36 (4 * (cn σ 49) + 1) x1) 36 (4 * (cn σ 49) + 2) x2) 36 (4 * (cn σ 49) + 3) x3) r
    rw [fi_sfi_ne (by omega)]
  · show (s2 (s2 (s2 (s2 σ 50 (cn σ 49) x0) 51 (cn σ 49) x1) 52 (cn σ 49) x2) 53 (cn σ 49) x3).2 k = σ.2 k
    have t : ∀ k ∈ ks2, k ≠ 50 ∧ k ≠ 51 ∧ k ≠ 52 ∧ k ≠ 53 := by decide
    obtain ⟨t0, t1, t2, t3⟩ := t k hk
    rw [s2_row t3, s2_row t2, s2_row t1, s2_row t0]
theorem kfull20 (C : CS h σ tr u) (W : CT σ) : f_X7_isFull h 20 = some (if cn σ 49 = 200 then 1 else 0) := by
  have hc := W.p
  have l : (200 : Int32) = nI 200 := by decide
  by_cases q : cn σ 49 = 200
  · have q2 : ¬ cn σ 49 < 200 := by omega
    simp (disch := omega) only [f_X7_isFull, obs, b10, b01, bm, if_true_, if_false_, eq_self, not_true_eq_false, not_false_eq_true, true_or, or_true, or_false, false_or, and_true, true_and, and_false, false_and, or_self, and_self, Bool.false_eq_true, ite_self, n25, n20, n24, n100, kk20 C, ki20_3 C, hc.1, km20 C, l, nI_ltI, q2, q, Nat.lt_irrefl]
  · have q2 : cn σ 49 < 200 := by omega
    simp (disch := omega) only [f_X7_isFull, obs, b10, b01, bm, if_true_, if_false_, eq_self, not_true_eq_false, not_false_eq_true, true_or, or_true, or_false, false_or, and_true, true_and, and_false, false_and, or_self, and_self, Bool.false_eq_true, ite_self, n25, n20, n24, n100, kk20 C, ki20_3 C, hc.1, km20 C, l, nI_ltI, q2, q]
def ta21 (h : AH) (σ : SG) (x0 x1 x2 x3 : Int32) : AH := sfi (sai (sai (sai (sai h 37 (5 * (cn σ 55)) x0) 37 (5 * (cn σ 55) + 1) x1) 37 (5 * (cn σ 55) + 2) x2) 37 (5 * (cn σ 55) + 3) x3) 21 3 (nI ((cn σ 55) + 1))
def ts21 (σ : SG) (x0 x1 x2 x3 : Int32) : SG := s1 (s2 (s2 (s2 (s2 σ 56 (cn σ 55) x0) 57 (cn σ 55) x1) 58 (cn σ 55) x2) 59 (cn σ 55) x3) 55 (nI ((cn σ 55) + 1))
theorem kadd21 (C : CS h σ tr u) (W : CT σ) {x0 x1 x2 x3 : Int32} (hn : (cn σ 55) < 20) : f_X7_add h 21 x0 x1 x2 x3 = some (nI (cn σ 55), ta21 h σ x0 x1 x2 x3) ∧ CS (ta21 h σ x0 x1 x2 x3) (ts21 σ x0 x1 x2 x3) tr u := by
  have hc := W.q
  have k37 := kk37 C
  have kt := kk21 C
  have ll := kl C (r := 37) (n := 100) (by decide)
  have y1 : xis h 37 (nI (5 * (cn σ 55))) x0 = some (sai h 37 (5 * (cn σ 55)) x0) := xis_of k37 ll (by omega) (by decide)
  have y2 : xis (sai h 37 (5 * (cn σ 55)) x0) 37 (nI (5 * (cn σ 55) + 1)) x1 = some (sai (sai h 37 (5 * (cn σ 55)) x0) 37 (5 * (cn σ 55) + 1) x1) := xis_of k37 ll (by omega) (by decide)
  have y3 : xis (sai (sai h 37 (5 * (cn σ 55)) x0) 37 (5 * (cn σ 55) + 1) x1) 37 (nI (5 * (cn σ 55) + 2)) x2 = some (sai (sai (sai h 37 (5 * (cn σ 55)) x0) 37 (5 * (cn σ 55) + 1) x1) 37 (5 * (cn σ 55) + 2) x2) := xis_of k37 ll (by omega) (by decide)
  have y4 : xis (sai (sai (sai h 37 (5 * (cn σ 55)) x0) 37 (5 * (cn σ 55) + 1) x1) 37 (5 * (cn σ 55) + 2) x2) 37 (nI (5 * (cn σ 55) + 3)) x3 = some (sai (sai (sai (sai h 37 (5 * (cn σ 55)) x0) 37 (5 * (cn σ 55) + 1) x1) 37 (5 * (cn σ 55) + 2) x2) 37 (5 * (cn σ 55) + 3) x3) := xis_of k37 ll (by omega) (by decide)
  have y5 : xpi (sai (sai (sai (sai h 37 (5 * (cn σ 55)) x0) 37 (5 * (cn σ 55) + 1) x1) 37 (5 * (cn σ 55) + 2) x2) 37 (5 * (cn σ 55) + 3) x3) 21 8 3 (nI ((cn σ 55) + 1)) = some (ta21 h σ x0 x1 x2 x3) := by unfold xpi; rw [if_pos (show kd (sai (sai (sai (sai h 37 (5 * (cn σ 55)) x0) 37 (5 * (cn σ 55) + 1) x1) 37 (5 * (cn σ 55) + 2) x2) 37 (5 * (cn σ 55) + 3) x3) 21 = 8 + 1 from kt)]; rfl
  have y6 : xgi (ta21 h σ x0 x1 x2 x3) 21 8 3 = some (nI ((cn σ 55) + 1)) := by unfold xgi; rw [if_pos (show kd (ta21 h σ x0 x1 x2 x3) 21 = 8 + 1 from kt)]; unfold ta21; rw [fi_sfi, if_pos ⟨rfl, rfl⟩]
  have em : nI (cn σ 55) * 5 = nI (5 * (cn σ 55)) := by rw [show (5 : Int32) = nI 5 by decide, nI_mul, Nat.mul_comm]
  have D1 := C.d.wA W.B (r := 37) (st := 5) (o := 0) (k := 56) (n := 20) (x := x0) (by decide) hn
  rw [Nat.add_zero] at D1
  have D2 := D1.wA W.B (r := 37) (st := 5) (o := 1) (k := 57) (n := 20) (x := x1) (by decide) hn
  have D3 := D2.wA W.B (r := 37) (st := 5) (o := 2) (k := 58) (n := 20) (x := x2) (by decide) hn
  have D4 := D3.wA W.B (r := 37) (st := 5) (o := 3) (k := 59) (n := 20) (x := x3) (by decide) hn
  have D5 := D4.wI W.F (r := 21) (f := 3) (k := 55) (x := nI ((cn σ 55) + 1)) (by decide) (by decide)
  refine ⟨?_, C.of rfl rfl rfl rfl D5 (fun r hr => ?_) (fun j hj => ⟨?_, ?_⟩) (fun r hr => ?_) (ks1_s1 (by decide)) (fun k hk => ?_) W⟩
  · have a1 : nI (5 * (cn σ 55)) + 2 = nI (5 * (cn σ 55) + 2) := by rw [lt2, nI_add]
    have a2 : nI (5 * (cn σ 55)) + 3 = nI (5 * (cn σ 55) + 3) := by rw [lt3, nI_add]
    have a3 : nI ((cn σ 55) + 1) - 1 = nI (cn σ 55) := nI_pred _
    simp only [f_X7_add, obs, b10, b01, bm, if_true_, if_false_, eq_self, not_true_eq_false, not_false_eq_true, true_or, or_true, or_false, false_or, and_true, true_and, and_false, false_and, or_self, and_self, Bool.false_eq_true, ite_self, n25, n20, n24, n100, kk21 C, ki21_3 C, hc.1, kw21 C, kr21_2 C, em, y1, xgr_sai, nI_1, y2, a1, y3, a2, y4, xgi_sai, y5, y6, a3]
  · show ai (sai (sai (sai (sai h 37 (5 * (cn σ 55)) x0) 37 (5 * (cn σ 55) + 1) x1) 37 (5 * (cn σ 55) + 2) x2) 37 (5 * (cn σ 55) + 3) x3) r = ai h r
    rw [ai_sai_ne (by omega), ai_sai_ne (by omega), ai_sai_ne (by omega), ai_sai_ne (by omega)]
  · show fi (sfi (sai (sai (sai (sai h 37 (5 * (cn σ 55)) x0) 37 (5 * (cn σ 55) + 1) x1) 37 (5 * (cn σ 55) + 2) x2) 37 (5 * (cn σ 55) + 3) x3) 21 3 (nI ((cn σ 55) + 1))) (300 + j) 0 = fi (sai (sai (sai (sai h 37 (5 * (cn σ 55)) x0) 37 (5 * (cn σ 55) + 1) x1) 37 (5 * (cn σ 55) + 2) x2) 37 (5 * (cn σ 55) + 3) x3) (300 + j) 0
    rw [fi_sfi_ne (by omega)]
  · show fi (sfi (sai (sai (sai (sai h 37 (5 * (cn σ 55)) x0) 37 (5 * (cn σ 55) + 1) x1) 37 (5 * (cn σ 55) + 2) x2) 37 (5 * (cn σ 55) + 3) x3) 21 3 (nI ((cn σ 55) + 1))) (360 + j) = fi (sai (sai (sai (sai h 37 (5 * (cn σ 55)) x0) 37 (5 * (cn σ 55) + 1) x1) 37 (5 * (cn σ 55) + 2) x2) 37 (5 * (cn σ 55) + 3) x3) (360 + j)
    rw [fi_sfi_ne (by omega)]
  · show fi (sfi (sai (sai (sai (sai h 37 (5 * (cn σ 55)) x0) 37 (5 * (cn σ 55) + 1) x1) 37 (5 * (cn σ 55) + 2) x2) 37 (5 * (cn σ 55) + 3) x3) 21 3 (nI ((cn σ 55) + 1))) r = fi (sai (sai (sai (sai h 37 (5 * (cn σ 55)) x0) 37 (5 * (cn σ 55) + 1) x1) 37 (5 * (cn σ 55) + 2) x2) 37 (5 * (cn σ 55) + 3) x3) r
    rw [fi_sfi_ne (by omega)]
  · show (s2 (s2 (s2 (s2 σ 56 (cn σ 55) x0) 57 (cn σ 55) x1) 58 (cn σ 55) x2) 59 (cn σ 55) x3).2 k = σ.2 k
    have t : ∀ k ∈ ks2, k ≠ 56 ∧ k ≠ 57 ∧ k ≠ 58 ∧ k ≠ 59 := by decide
    obtain ⟨t0, t1, t2, t3⟩ := t k hk
    rw [s2_row t3, s2_row t2, s2_row t1, s2_row t0]
theorem kfull21 (C : CS h σ tr u) (W : CT σ) : f_X7_isFull h 21 = some (if cn σ 55 = 20 then 1 else 0) := by
  have hc := W.q
  have l : (20 : Int32) = nI 20 := by decide
  by_cases q : cn σ 55 = 20
  · have q2 : ¬ cn σ 55 < 20 := by omega
    simp (disch := omega) only [f_X7_isFull, obs, b10, b01, bm, if_true_, if_false_, eq_self, not_true_eq_false, not_false_eq_true, true_or, or_true, or_false, false_or, and_true, true_and, and_false, false_and, or_self, and_self, Bool.false_eq_true, ite_self, n25, n20, n24, n100, kk21 C, ki21_3 C, hc.1, km21 C, l, nI_ltI, q2, q, Nat.lt_irrefl]
  · have q2 : cn σ 55 < 20 := by omega
    simp (disch := omega) only [f_X7_isFull, obs, b10, b01, bm, if_true_, if_false_, eq_self, not_true_eq_false, not_false_eq_true, true_or, or_true, or_false, false_or, and_true, true_and, and_false, false_and, or_self, and_self, Bool.false_eq_true, ite_self, n25, n20, n24, n100, kk21 C, ki21_3 C, hc.1, km21 C, l, nI_ltI, q2, q]
end
