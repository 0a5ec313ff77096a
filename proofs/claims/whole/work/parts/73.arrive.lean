/-! ===== public: arrive ===== -/
section
variable {L N : Nat} {xs : Nat → Int32} {h h' : AH} {σ σ' : SG} {tr : Nat → Nat} {u n : Nat}

theorem arr_no {p : Nat} {y m : Nat} (C : CS h σ tr u) (H : RS h σ) (W : WV σ) (I : INV L xs h σ tr u n) (oa : ok (nI p) (cn σ 49) = true) (ob : ok 1 2 = true) (q1 : σ.2 53 p = 1) (em : σ.2 52 p = nI m) (ey : σ.1 54 = nI y) (hp : p < cn σ 49) (w3 : ¬ nI m ≤ 2000000000 - nI y) (w2 : ¬ lg_cmp ((nI y).toInt64 + (nI m).toInt64) 2000000000 ≤ 0) : ∃ v h1 h2 σ' tr' u', f_X11_arrive h 1 (nI p) 1 = some (v, h1) ∧ f_X12_arrive h1 100 (nI p) 1 = some (v, h2) ∧ (kd h1 9000 = 30 ∧ ln h1 9000 = L ∧ ai h1 9000 = xs) ∧ INV L xs h2 σ' tr' u' (n + 1) := by
  have hP := W.1.p
  refine ⟨-3, h, h, σ, tr, u, ?_, ?_, I.2.2.2.2.1, I.up (by omega)⟩
  · unfold f_X11_arrive
    rw [if_pos (kk1 C), kr1_10 C, obs, c_has20 C W.1, obs, oa, if_neg (by decide), ci1, obs, ob, if_neg (by decide), obs, ka20_3 C (by omega), obs, q1, if_pos rfl, if_neg (by decide), obs, ka20_2 C (by omega), obs, ki1_13 C, obs, em, ey, if_neg w3]
  · unfold f_X12_arrive
    rw [if_pos H.1, r_isPayment H W.1, obs, oa, if_neg (by decide), ri1, obs, ob, if_neg (by decide), rg53 H, obs, ra53 H (by omega), obs, q1, if_pos rfl, if_pos rfl, RS.gi H, obs, rg52 H, obs, ra52 H (by omega), obs, em, ey, if_neg w2]
theorem pub_arrive {a b : Int32} (I : INV L xs h σ tr u n) : ∃ v h1 h2 σ' tr' u', f_X11_arrive h 1 a b = some (v, h1) ∧ f_X12_arrive h1 100 a b = some (v, h2) ∧ (kd h1 9000 = 30 ∧ ln h1 9000 = L ∧ ai h1 9000 = xs) ∧ INV L xs h2 σ' tr' u' (n + 1) := by
  obtain ⟨C, H, W, X, S, U⟩ := id I
  have hG := W.1.g
  have hT := W.1.t
  have hF := W.1.f
  have hTl := W.1.tl
  have hP := W.1.p
  obtain ⟨y, hy, ey⟩ := X.2.1
  rcases okC a (n := cn σ 49) (by omega) with oa | ⟨oa, p, hp, rfl⟩
  · exact ⟨-1, h, h, σ, tr, u, by simp only [f_X11_arrive, obs, b10, b01, bm, if_true_, if_false_, eq_self, not_true_eq_false, not_false_eq_true, true_or, or_true, or_false, false_or, and_true, true_and, and_false, false_and, or_self, and_self, Bool.false_eq_true, ite_self, n25, n20, n24, n100, kk1 C, kr1_10 C, c_has20 C W.1, oa], by simp only [f_X12_arrive, obs, b10, b01, bm, if_true_, if_false_, eq_self, not_true_eq_false, not_false_eq_true, true_or, or_true, or_false, false_or, and_true, true_and, and_false, false_and, or_self, and_self, Bool.false_eq_true, ite_self, n25, n20, n24, n100, RS.kk H, r_isPayment H W.1, oa], S, I.up (by omega)⟩
  rcases okC b (n := 2) (by decide) with ob | ⟨ob, l, hl, rfl⟩
  · exact ⟨-2, h, h, σ, tr, u, by simp only [f_X11_arrive, obs, b10, b01, bm, if_true_, if_false_, eq_self, not_true_eq_false, not_false_eq_true, true_or, or_true, or_false, false_or, and_true, true_and, and_false, false_and, or_self, and_self, Bool.false_eq_true, ite_self, n25, n20, n24, n100, kk1 C, kr1_10 C, c_has20 C W.1, ci1, oa, ob], by simp only [f_X12_arrive, obs, b10, b01, bm, if_true_, if_false_, eq_self, not_true_eq_false, not_false_eq_true, true_or, or_true, or_false, false_or, and_true, true_and, and_false, false_and, or_self, and_self, Bool.false_eq_true, ite_self, n25, n20, n24, n100, RS.kk H, r_isPayment H W.1, ri1, oa, ob], S, I.up (by omega)⟩
  obtain ⟨m, hm, em⟩ := wv52 W hp
  have X1 := X.up (m := n + 1) (by omega)
  by_cases q1 : σ.2 53 p = 1
  · have l2 : l = 0 ∨ l = 1 := by omega
    rcases l2 with rfl | rfl
    · rw [il0] at ob ⊢
      have C2 : CS (sai h 36 (4 * p + 3) 3) (s2 σ 53 p 3) tr u := C.of rfl rfl rfl rfl (C.d.wA W.1.B (r := 36) (st := 4) (o := 3) (k := 53) (n := 200) (by decide) (by omega)) (fun r hr => ai_sai_ne (by omega)) (fun j hj => ⟨rfl, rfl⟩) (fun _ _ => rfl) (fun _ _ => rfl) (ks2_row (by decide)) W.1
      have H1 : RS (sai h 36 (4 * p + 3) 3) σ := rsA H (by omega)
      have hw := rw53 H1 (n := p) (x := 3) (by omega)
      have H3 : RS (sfi (sai (sai h 36 (4 * p + 3) 3) 153 p 3) 100 54 (nI y)) (s2 σ 53 p 3) := (hw.2.fi 54 (nI y)).cg (fun k => by
        rw [s1_ite]
        split
        · rename_i e; rw [e]; exact ey
        · rfl) (fun _ _ _ => rfl)
      have S1 : kd (sai h 36 (4 * p + 3) 3) 9000 = 30 ∧ ln (sai h 36 (4 * p + 3) 3) 9000 = L ∧ ai (sai h 36 (4 * p + 3) 3) 9000 = xs := by rw [ai_sai_ne (by omega)]; exact S
      have z1 : ((0 : Int32) = 1) = False := by decide
      have ey2 : (s2 σ 53 p 3).1 54 = nI y := ey
      refine ⟨1, _, _, _, tr, u, ?_, ?_, S1, I.st C2 ((FRc.a (r := 153) (i := p) (x := 3) (by omega) (by omega)).trans (FRc.f (i := 54) (x := nI y))) H3 (W.of (fun _ _ => rfl) (vs2_row (by decide)) (W.2.1.w2_53 ⟨3, by omega, by decide⟩) W.2.2.1) (X1.of (fun _ _ => rfl) (xs2_row (by decide))) S1 (by omega)⟩
      · simp (disch := omega) only [f_X11_arrive, obs, b10, b01, bm, if_true_, if_false_, eq_self, not_true_eq_false, not_false_eq_true, true_or, or_true, or_false, false_or, and_true, true_and, and_false, false_and, or_self, and_self, Bool.false_eq_true, ite_self, n25, n20, n24, n100, kk1 C, kr1_10 C, c_has20 C W.1, ci1, oa, ob, ka20_3 C, q1, kp20_3 C]
      · simp (disch := omega) only [f_X12_arrive, f_X12_arrive_b60, f_X12_arrive_b75, f_X12_arrive_b96, obs, b10, b01, bm, if_true_, if_false_, eq_self, not_true_eq_false, not_false_eq_true, true_or, or_true, or_false, false_or, and_true, true_and, and_false, false_and, or_self, and_self, Bool.false_eq_true, ite_self, n25, n20, n24, n100, RS.kk H1, r_isPayment H1 W.1, ri1, oa, ob, rg53 H1, ra53 H1, q1, z1, hw.1, RS.gi hw.2, ey2, Int32.add_zero, hw.2.pi]
    · rw [il1] at ob ⊢
      have z10 : ((1 : Int32) = 0) = False := by decide
      have ty : (nI y).toInt = y := nI_toInt (by omega)
      have tm : (nI m).toInt = m := nI_toInt (by omega)
      have hs : ((nI y).toInt64 + (nI m).toInt64).toInt = y + m := by
        rw [Int64.toInt_add, Int32.toInt_toInt64, Int32.toInt_toInt64, ty, tm]
        apply Int.bmod_eq_of_le <;> omega
      have w2' : (lg_cmp ((nI y).toInt64 + (nI m).toInt64) 2000000000 ≤ 0) ↔ ((y : Int) + m ≤ 2000000000) := by
        rw [cmp_le, Int64.le_iff_toInt_le, hs, show (2000000000 : Int64).toInt = 2000000000 by decide]
      have w3' : (nI m ≤ 2000000000 - nI y) ↔ ((y : Int) + m ≤ 2000000000) := by
        rw [Int32.le_iff_toInt_le, tm, i3_sub (by rw [ty, show (2000000000 : Int32).toInt = 2000000000 by decide]; omega) (by rw [ty, show (2000000000 : Int32).toInt = 2000000000 by decide]; omega), ty, show (2000000000 : Int32).toInt = 2000000000 by decide]
        omega
      by_cases q2 : (y : Int) + m ≤ 2000000000
      · have hadd : nI y + nI m = nI (y + m) := nI_add y m
        have x1 : xpi h 1 12 13 (nI (y + m)) = some (sfi h 1 13 (nI (y + m))) := by unfold xpi; rw [if_pos (kk1 C)]
        have C1 : CS (sfi h 1 13 (nI (y + m))) (s1 σ 54 (nI (y + m))) tr u := C.of rfl rfl rfl rfl (C.d.wI W.1.F (r := 1) (f := 13) (k := 54) (by decide) (by decide)) (fun _ _ => rfl) (fun j hj => ⟨by rw [fi_sfi_ne (by omega)], fi_sfi_ne (by omega)⟩) (fun r hr => fi_sfi_ne (by omega)) (ks1_s1 (by decide)) (fun _ _ => rfl) W.1
        have W1 : WV (s1 σ 54 (nI (y + m))) := W.of (vs1_s1 (by decide)) (fun _ _ => rfl) (W.2.1.w1 (by decide)) W.2.2.1
        have X' : WX (s1 σ 54 (nI (y + m))) (n + 1) := ⟨X1.1, ⟨y + m, by omega, rfl⟩, X1.2.2.1, X1.2.2.2.1, X1.2.2.2.2.1, X1.2.2.2.2.2.1, X1.2.2.2.2.2.2⟩
        have C2 : CS (sai (sfi h 1 13 (nI (y + m))) 36 (4 * p + 3) 2) (s2 (s1 σ 54 (nI (y + m))) 53 p 2) tr u := C1.of rfl rfl rfl rfl (C1.d.wA W1.1.B (r := 36) (st := 4) (o := 3) (k := 53) (n := 200) (by decide) (by omega)) (fun r hr => ai_sai_ne (by omega)) (fun j hj => ⟨rfl, rfl⟩) (fun _ _ => rfl) (fun _ _ => rfl) (ks2_row (by decide)) W1.1
        have H1 : RS (sai (sfi h 1 13 (nI (y + m))) 36 (4 * p + 3) 2) σ := rsA (rsF H (by omega)) (by omega)
        have hw := rw53 H1 (n := p) (x := 2) (by omega)
        have H3 : RS (sfi (sai (sai (sfi h 1 13 (nI (y + m))) 36 (4 * p + 3) 2) 153 p 2) 100 54 (nI (y + m))) (s2 (s1 σ 54 (nI (y + m))) 53 p 2) := (hw.2.fi 54 (nI (y + m))).cg (fun _ => rfl) (fun _ _ _ => rfl)
        have S1 : kd (sai (sfi h 1 13 (nI (y + m))) 36 (4 * p + 3) 2) 9000 = 30 ∧ ln (sai (sfi h 1 13 (nI (y + m))) 36 (4 * p + 3) 2) 9000 = L ∧ ai (sai (sfi h 1 13 (nI (y + m))) 36 (4 * p + 3) 2) 9000 = xs := by rw [ai_sai_ne (by omega)]; exact S
        have ey2 : (s2 σ 53 p 2).1 54 = nI y := ey
        have em2 : (s2 σ 53 p 2).2 52 p = nI m := em
        refine ⟨1, _, _, _, tr, u, ?_, ?_, S1, I.st C2 ((FRc.a (r := 153) (i := p) (x := 2) (by omega) (by omega)).trans (FRc.f (i := 54) (x := nI (y + m)))) H3 (W1.of (fun _ _ => rfl) (vs2_row (by decide)) (W1.2.1.w2_53 ⟨2, by omega, by decide⟩) W1.2.2.1) (X'.of (fun _ _ => rfl) (xs2_row (by decide))) S1 (by omega)⟩
        · have w3 := w3'.mpr q2
          unfold f_X11_arrive
          rw [if_pos (kk1 C), kr1_10 C, obs, c_has20 C W.1, obs, oa, if_neg (by decide), ci1, obs, ob, if_neg (by decide), obs, ka20_3 C (by omega), obs, q1, if_pos rfl, if_neg (by decide), obs, ka20_2 C (by omega), obs, ki1_13 C, obs, em, ey, if_pos w3, obs, hadd, x1, obs, xgr_sfi, kr1_10 C, obs, kp20_3 C1 (by omega), obs]
        · have w2 := w2'.mpr q2
          have hb : f_X12_arrive_b60 (sai (sfi h 1 13 (nI (y + m))) 36 (4 * p + 3) 2) 100 (nI p) 1 = some (1, sfi (sai (sai (sfi h 1 13 (nI (y + m))) 36 (4 * p + 3) 2) 153 p 2) 100 54 (nI (y + m))) := by
            unfold f_X12_arrive_b60 f_X12_arrive_b75 f_X12_arrive_b96
            rw [rg53 H1, obs, if_pos rfl, hw.1, obs, RS.gi hw.2, obs, ey2, if_pos rfl, rg52 hw.2, obs, ra52 hw.2 (by omega), obs, em2, hadd, hw.2.pi, obs]
          unfold f_X12_arrive
          rw [if_pos H1.1, r_isPayment H1 W.1, obs, oa, if_neg (by decide), ri1, obs, ob, if_neg (by decide), rg53 H1, obs, ra53 H1 (by omega), obs, q1, if_pos rfl, if_pos rfl, RS.gi H1, obs, rg52 H1, obs, ra52 H1 (by omega), obs, em, ey, if_pos w2, hb]
      · have w3 : ¬ nI m ≤ 2000000000 - nI y := fun e => q2 (w3'.mp e)
        have w2 : ¬ lg_cmp ((nI y).toInt64 + (nI m).toInt64) 2000000000 ≤ 0 := fun e => q2 (w2'.mp e)
        clear w2' w3' hs ty tm q2
        exact arr_no C H W I oa ob q1 em ey hp w3 w2
  · refine ⟨-3, h, h, σ, tr, u, ?_, ?_, S, I.up (by omega)⟩
    · simp (disch := omega) only [f_X11_arrive, obs, b10, b01, bm, if_true_, if_false_, eq_self, not_true_eq_false, not_false_eq_true, true_or, or_true, or_false, false_or, and_true, true_and, and_false, false_and, or_self, and_self, Bool.false_eq_true, ite_self, n25, n20, n24, n100, kk1 C, kr1_10 C, c_has20 C W.1, ci1, oa, ob, ka20_3 C, q1]
    · simp (disch := omega) only [f_X12_arrive, obs, b10, b01, bm, if_true_, if_false_, eq_self, not_true_eq_false, not_false_eq_true, true_or, or_true, or_false, false_or, and_true, true_and, and_false, false_and, or_self, and_self, Bool.false_eq_true, ite_self, n25, n20, n24, n100, RS.kk H, r_isPayment H W.1, ri1, oa, ob, rg53 H, ra53 H, q1]
end
