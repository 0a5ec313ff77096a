/-! ===== public: money, tables ===== -/
section
variable {L N : Nat} {xs : Nat → Int32} {h h' : AH} {σ σ' : SG} {tr : Nat → Nat} {u n : Nat}

theorem xgr_sai {r i a c k : Nat} {x : Int32} : xgr (sai h r i x) a c k = xgr h a c k := rfl
theorem xgr_sfi {r i a c k : Nat} {x : Int32} : xgr (sfi h r i x) a c k = xgr h a c k := rfl
theorem xgi_sai {r i a c k : Nat} {x : Int32} : xgi (sai h r i x) a c k = xgi h a c k := rfl
theorem rsF {r k : Nat} {x : Int32} (H : RS h σ) (hr : r ≠ 100) : RS (sfi h r k x) σ := RSof H rfl rfl rfl (fi_sfi_ne (fun e => hr e.symm)) (fun _ _ => rfl)
theorem rsA {r k : Nat} {x : Int32} (H : RS h σ) (hr : r < 100 ∨ 177 ≤ r) : RS (sai h r k x) σ := RSof H rfl rfl rfl rfl (fun k hk => ai_sai_ne (by omega))
theorem sum_l (a b : Int32) (h1 : -2147483648 ≤ a.toInt + b.toInt) (h2 : a.toInt + b.toInt < 2147483648) : (a.toInt64 + b.toInt64).toInt = a.toInt + b.toInt := by
  rw [Int64.toInt_add, Int32.toInt_toInt64, Int32.toInt_toInt64]
  apply Int.bmod_eq_of_le <;> omega
theorem cmp_lt {x : Int64} {y : Int64} : (lg_cmp x y < 0) = (x < y) := by
  unfold lg_cmp
  apply propext
  by_cases q1 : x > y
  · rw [if_pos q1]
    exact ⟨fun e => absurd e (by decide), fun e => absurd (Int64.lt_trans e q1) (Int64.lt_irrefl)⟩
  · rw [if_neg q1]
    by_cases q2 : x = y
    · rw [if_pos q2, q2]
      exact ⟨fun e => absurd e (by decide), fun e => absurd e (Int64.lt_irrefl)⟩
    · rw [if_neg q2]
      refine ⟨fun _ => ?_, fun _ => by decide⟩
      rw [Int64.lt_iff_toInt_lt]
      have q3 : ¬ y.toInt < x.toInt := fun e => q1 (Int64.lt_iff_toInt_lt.mpr e)
      have q4 : ¬ x.toInt = y.toInt := fun e => q2 (Int64.toInt_inj.mp e)
      omega
theorem cmp_le {x : Int64} {y : Int64} : (lg_cmp x y ≤ 0) = (x ≤ y) := by
  unfold lg_cmp
  apply propext
  by_cases q1 : x > y
  · rw [if_pos q1]
    refine ⟨fun e => absurd e (by decide), fun e => ?_⟩
    have a := Int64.lt_iff_toInt_lt.mp q1
    have b := Int64.le_iff_toInt_le.mp e
    omega
  · rw [if_neg q1]
    refine ⟨fun _ => ?_, fun _ => ?_⟩
    · rw [Int64.le_iff_toInt_le]
      have q3 : ¬ y.toInt < x.toInt := fun e => q1 (Int64.lt_iff_toInt_lt.mpr e)
      omega
    · split <;> decide
theorem pub_fund {a : Int32} (I : INV L xs h σ tr u n) : ∃ v h1 h2 σ' tr' u', f_X11_fund h 1 a = some (v, h1) ∧ f_X12_fund h1 100 a = some (v, h2) ∧ (kd h1 9000 = 30 ∧ ln h1 9000 = L ∧ ai h1 9000 = xs) ∧ INV L xs h2 σ' tr' u' (n + 1) := by
  obtain ⟨C, H, W, X, S, U⟩ := id I
  have hG := W.1.g
  have hT := W.1.t
  have hF := W.1.f
  have hTl := W.1.tl
  obtain ⟨y, hy, ey⟩ := X.2.1
  by_cases q1 : f_X12_in h a (-1000000000) 1000000000 = some 0
  · have q1' : f_X11_within h a (-1000000000) 1000000000 = some 0 := q1
    exact ⟨-2, h, h, σ, tr, u, by simp only [f_X11_fund, obs, b10, b01, bm, if_true_, if_false_, eq_self, not_true_eq_false, not_false_eq_true, true_or, or_true, or_false, false_or, and_true, true_and, and_false, false_and, or_self, and_self, Bool.false_eq_true, ite_self, n25, n20, n24, n100, kk1 C, q1'], by simp only [f_X12_fund, obs, b10, b01, bm, if_true_, if_false_, eq_self, not_true_eq_false, not_false_eq_true, true_or, or_true, or_false, false_or, and_true, true_and, and_false, false_and, or_self, and_self, Bool.false_eq_true, ite_self, n25, n20, n24, n100, RS.kk H, RS.gi H, q1], S, I.up (by omega)⟩
  have q2 : f_X12_in h a (-1000000000) 1000000000 = some 1 ∧ -1000000000 ≤ a.toInt ∧ a.toInt ≤ 1000000000 := by
    unfold f_X12_in at q1 ⊢
    by_cases z1 : a < -1000000000
    · rw [if_pos z1] at q1; exact absurd rfl q1
    · rw [if_neg z1] at q1 ⊢
      by_cases z2 : 1000000000 < a
      · rw [if_pos z2] at q1; exact absurd rfl q1
      · rw [if_neg z2]
        rw [Int32.lt_iff_toInt_lt, show (-1000000000 : Int32).toInt = -1000000000 by decide] at z1
        rw [Int32.lt_iff_toInt_lt, show (1000000000 : Int32).toInt = 1000000000 by decide] at z2
        exact ⟨rfl, by omega, by omega⟩
  obtain ⟨q2, r1, r2⟩ := q2
  have q2' : f_X11_within h a (-1000000000) 1000000000 = some 1 := q2
  have ty : (nI y).toInt = y := nI_toInt (by omega)
  by_cases z : y + a.toInt < 2147483648
  · have hs := sum_l (nI y) a (by omega) (by omega)
    rw [ty] at hs
    have w1 : (lg_cmp ((nI y).toInt64 + a.toInt64) 0 < 0) = ((y : Int) + a.toInt < 0) := by
      rw [cmp_lt]; apply propext; rw [Int64.lt_iff_toInt_lt, hs, show (0 : Int64).toInt = 0 by decide]
    have w2 : (lg_cmp ((nI y).toInt64 + a.toInt64) 2000000000 ≤ 0) = ((y : Int) + a.toInt ≤ 2000000000) := by
      rw [cmp_le]; apply propext; rw [Int64.le_iff_toInt_le, hs, show (2000000000 : Int64).toInt = 2000000000 by decide]
    by_cases z1 : (y : Int) + a.toInt < 0
    · exact ⟨-2, h, h, σ, tr, u, by simp only [f_X11_fund, obs, b10, b01, bm, if_true_, if_false_, eq_self, not_true_eq_false, not_false_eq_true, true_or, or_true, or_false, false_or, and_true, true_and, and_false, false_and, or_self, and_self, Bool.false_eq_true, ite_self, n25, n20, n24, n100, kk1 C, q2', ki1_13 C, ey, w1, z1], by simp only [f_X12_fund, obs, b10, b01, bm, if_true_, if_false_, eq_self, not_true_eq_false, not_false_eq_true, true_or, or_true, or_false, false_or, and_true, true_and, and_false, false_and, or_self, and_self, Bool.false_eq_true, ite_self, n25, n20, n24, n100, RS.kk H, RS.gi H, q2, ey, w1, z1], S, I.up (by omega)⟩
    by_cases z2 : (y : Int) + a.toInt ≤ 2000000000
    · have hadd : ((nI y).toInt64 + a.toInt64).toInt32 = nI y + a := by rw [Int64.toInt32_add, Int32.toInt32_toInt64, Int32.toInt32_toInt64]
      have hb : bd (nI y + a) 2000000001 := bd_of_int (by rw [i3_add (by omega) (by omega), ty]; omega)
      have x1 : xpi h 1 12 13 (nI y + a) = some (sfi h 1 13 (nI y + a)) := by unfold xpi; rw [if_pos (kk1 C)]
      have C1 : CS (sfi h 1 13 (nI y + a)) (s1 σ 54 (nI y + a)) tr u := C.of rfl rfl rfl rfl (C.d.wI W.1.F (r := 1) (f := 13) (k := 54) (by decide) (by decide)) (fun _ _ => rfl) (fun j hj => ⟨by rw [fi_sfi_ne (by omega)], fi_sfi_ne (by omega)⟩) (fun r hr => fi_sfi_ne (by omega)) (ks1_s1 (by decide)) (fun _ _ => rfl) W.1
      have H1 : RS (sfi h 1 13 (nI y + a)) σ := RSof H rfl rfl rfl (fi_sfi_ne (by omega)) (fun k hk => rfl)
      have H2 := H1.fi 54 (nI y + a)
      have q2'' : f_X12_in (sfi h 1 13 (nI y + a)) a (-1000000000) 1000000000 = some 1 := q2
      have e1 : xgi (sfi h 1 13 (nI y + a)) 1 12 13 = some (nI y + a) := by rw [ki1_13 C1, s1_eq]
      have X1 := X.up (m := n + 1) (by omega)
      have X' : WX (s1 σ 54 (nI y + a)) (n + 1) := ⟨X1.1, hb, X1.2.2.1, X1.2.2.2.1, X1.2.2.2.2.1, X1.2.2.2.2.2.1, X1.2.2.2.2.2.2⟩
      refine ⟨nI y + a, sfi h 1 13 (nI y + a), sfi (sfi h 1 13 (nI y + a)) 100 54 (nI y + a), s1 σ 54 (nI y + a), tr, u, ?_, ?_, S, I.st C1 FRc.f H2 (W.of (vs1_s1 (by decide)) (fun _ _ => rfl) (W.2.1.w1 (by decide)) W.2.2.1) X' S (by omega)⟩
      · simp only [f_X11_fund, obs, b10, b01, bm, if_true_, if_false_, eq_self, not_true_eq_false, not_false_eq_true, true_or, or_true, or_false, false_or, and_true, true_and, and_false, false_and, or_self, and_self, Bool.false_eq_true, ite_self, n25, n20, n24, n100, kk1 C, q2', ki1_13 C, ey, w1, z1, w2, z2, hadd, x1, e1]
      · simp only [f_X12_fund, obs, b10, b01, bm, if_true_, if_false_, eq_self, not_true_eq_false, not_false_eq_true, true_or, or_true, or_false, false_or, and_true, true_and, and_false, false_and, or_self, and_self, Bool.false_eq_true, ite_self, n25, n20, n24, n100, RS.kk H1, RS.gi H1, q2'', ey, w1, z1, w2, z2, H1.pi, RS.gi H2, s1_eq]
    · exact ⟨-2, h, h, σ, tr, u, by simp only [f_X11_fund, obs, b10, b01, bm, if_true_, if_false_, eq_self, not_true_eq_false, not_false_eq_true, true_or, or_true, or_false, false_or, and_true, true_and, and_false, false_and, or_self, and_self, Bool.false_eq_true, ite_self, n25, n20, n24, n100, kk1 C, q2', ki1_13 C, ey, w1, z1, w2, z2], by simp only [f_X12_fund, obs, b10, b01, bm, if_true_, if_false_, eq_self, not_true_eq_false, not_false_eq_true, true_or, or_true, or_false, false_or, and_true, true_and, and_false, false_and, or_self, and_self, Bool.false_eq_true, ite_self, n25, n20, n24, n100, RS.kk H, RS.gi H, q2, ey, w1, z1, w2, z2], S, I.up (by omega)⟩
  · have hs : ((nI y).toInt64 + a.toInt64).toInt = y + a.toInt := by
      rw [Int64.toInt_add, Int32.toInt_toInt64, Int32.toInt_toInt64, ty]
      apply Int.bmod_eq_of_le <;> omega
    have w1 : (lg_cmp ((nI y).toInt64 + a.toInt64) 0 < 0) = False := by
      rw [cmp_lt]; apply propext; rw [Int64.lt_iff_toInt_lt, hs, show (0 : Int64).toInt = 0 by decide]; constructor
      · intro e; omega
      · intro e; exact e.elim
    have w2 : (lg_cmp ((nI y).toInt64 + a.toInt64) 2000000000 ≤ 0) = False := by
      rw [cmp_le]; apply propext; rw [Int64.le_iff_toInt_le, hs, show (2000000000 : Int64).toInt = 2000000000 by decide]; constructor
      · intro e; omega
      · intro e; exact e.elim
    exact ⟨-2, h, h, σ, tr, u, by simp only [f_X11_fund, obs, b10, b01, bm, if_true_, if_false_, eq_self, not_true_eq_false, not_false_eq_true, true_or, or_true, or_false, false_or, and_true, true_and, and_false, false_and, or_self, and_self, Bool.false_eq_true, ite_self, n25, n20, n24, n100, kk1 C, q2', ki1_13 C, ey, w1, w2], by simp only [f_X12_fund, obs, b10, b01, bm, if_true_, if_false_, eq_self, not_true_eq_false, not_false_eq_true, true_or, or_true, or_false, false_or, and_true, true_and, and_false, false_and, or_self, and_self, Bool.false_eq_true, ite_self, n25, n20, n24, n100, RS.kk H, RS.gi H, q2, ey, w1, w2], S, I.up (by omega)⟩
theorem pub_send {a : Int32} (I : INV L xs h σ tr u n) : ∃ v h1 h2 σ' tr' u', f_X11_send h 1 a = some (v, h1) ∧ f_X12_send h1 100 a = some (v, h2) ∧ (kd h1 9000 = 30 ∧ ln h1 9000 = L ∧ ai h1 9000 = xs) ∧ INV L xs h2 σ' tr' u' (n + 1) := by
  obtain ⟨C, H, W, X, S, U⟩ := id I
  have hG := W.1.g
  have hT := W.1.t
  have hF := W.1.f
  have hTl := W.1.tl
  have hP := W.1.p
  obtain ⟨y, hy, ey⟩ := X.2.1
  rcases okC a (n := cn σ 49) (by omega) with oa | ⟨oa, p, hp, rfl⟩
  · exact ⟨-1, h, h, σ, tr, u, by simp only [f_X11_send, obs, b10, b01, bm, if_true_, if_false_, eq_self, not_true_eq_false, not_false_eq_true, true_or, or_true, or_false, false_or, and_true, true_and, and_false, false_and, or_self, and_self, Bool.false_eq_true, ite_self, n25, n20, n24, n100, kk1 C, kr1_10 C, c_has20 C W.1, oa], by simp only [f_X12_send, obs, b10, b01, bm, if_true_, if_false_, eq_self, not_true_eq_false, not_false_eq_true, true_or, or_true, or_false, false_or, and_true, true_and, and_false, false_and, or_self, and_self, Bool.false_eq_true, ite_self, n25, n20, n24, n100, RS.kk H, r_isPayment H W.1, oa], S, I.up (by omega)⟩
  obtain ⟨m, hm, em⟩ := wv52 W hp
  by_cases q1 : σ.2 53 p = 0 ∨ σ.2 53 p = 2
  · by_cases q2 : m ≤ y
    · have x1 : xpi h 1 12 13 (nI y - nI m) = some (sfi h 1 13 (nI (y - m))) := by unfold xpi; rw [if_pos (kk1 C), nI_sub q2]
      have C1 : CS (sfi h 1 13 (nI (y - m))) (s1 σ 54 (nI (y - m))) tr u := C.of rfl rfl rfl rfl (C.d.wI W.1.F (r := 1) (f := 13) (k := 54) (by decide) (by decide)) (fun _ _ => rfl) (fun j hj => ⟨by rw [fi_sfi_ne (by omega)], fi_sfi_ne (by omega)⟩) (fun r hr => fi_sfi_ne (by omega)) (ks1_s1 (by decide)) (fun _ _ => rfl) W.1
      have X1 := X.up (m := n + 1) (by omega)
      have W1 : WV (s1 σ 54 (nI (y - m))) := W.of (vs1_s1 (by decide)) (fun _ _ => rfl) (W.2.1.w1 (by decide)) W.2.2.1
      have X' : WX (s1 σ 54 (nI (y - m))) (n + 1) := ⟨X1.1, ⟨y - m, by omega, rfl⟩, X1.2.2.1, X1.2.2.2.1, X1.2.2.2.2.1, X1.2.2.2.2.2.1, X1.2.2.2.2.2.2⟩
      have C2 : CS (sai (sfi h 1 13 (nI (y - m))) 36 (4 * p + 3) 1) (s2 (s1 σ 54 (nI (y - m))) 53 p 1) tr u := C1.of rfl rfl rfl rfl (C1.d.wA W1.1.B (r := 36) (st := 4) (o := 3) (k := 53) (n := 200) (by decide) (by omega)) (fun r hr => ai_sai_ne (by omega)) (fun j hj => ⟨rfl, rfl⟩) (fun _ _ => rfl) (fun _ _ => rfl) (ks2_row (by decide)) W1.1
      have H1 : RS (sai (sfi h 1 13 (nI (y - m))) 36 (4 * p + 3) 1) σ := rsA (rsF H (by omega)) (by omega)
      have H2 := H1.fi 54 (nI (y - m))
      have hw := rw53 H2 (n := p) (x := 1) (by omega)
      have S1 : kd (sai (sfi h 1 13 (nI (y - m))) 36 (4 * p + 3) 1) 9000 = 30 ∧ ln (sai (sfi h 1 13 (nI (y - m))) 36 (4 * p + 3) 1) 9000 = L ∧ ai (sai (sfi h 1 13 (nI (y - m))) 36 (4 * p + 3) 1) 9000 = xs := by rw [ai_sai_ne (by omega)]; exact S
      have q3 : nI m ≤ nI y := nI_le q2 (by omega)
      have hsub : nI y - nI m = nI (y - m) := nI_sub q2
      refine ⟨1, _, _, _, tr, u, ?_, ?_, S1, I.st C2 (FRc.f.trans (FRc.a (r := 153) (i := p) (x := 1) (by omega) (by omega))) hw.2 (W1.of (fun _ _ => rfl) (vs2_row (by decide)) (W1.2.1.w2_53 ⟨1, by omega, by decide⟩) W1.2.2.1) (X'.of (fun _ _ => rfl) (xs2_row (by decide))) S1 (by omega)⟩
      · rcases q1 with q | q
        · simp (disch := omega) only [f_X11_send, f_X11_send_b42, obs, b10, b01, bm, if_true_, if_false_, eq_self, not_true_eq_false, not_false_eq_true, true_or, or_true, or_false, false_or, and_true, true_and, and_false, false_and, or_self, and_self, Bool.false_eq_true, ite_self, n25, n20, n24, n100, kk1 C, kr1_10 C, c_has20 C W.1, oa, ka20_3 C, ka20_2 C, q, em, ki1_13 C, ey, q3, x1, xgr_sfi, kp20_3 C1]
        · have z : ((2 : Int32) = 0) = False := by decide
          simp (disch := omega) only [f_X11_send, f_X11_send_b42, obs, b10, b01, bm, if_true_, if_false_, eq_self, not_true_eq_false, not_false_eq_true, true_or, or_true, or_false, false_or, and_true, true_and, and_false, false_and, or_self, and_self, Bool.false_eq_true, ite_self, n25, n20, n24, n100, kk1 C, kr1_10 C, c_has20 C W.1, oa, ka20_3 C, ka20_2 C, q, z, em, ki1_13 C, ey, q3, x1, xgr_sfi, kp20_3 C1]
      · rcases q1 with q | q
        · simp (disch := omega) only [f_X12_send, f_X12_send_b29, obs, b10, b01, bm, if_true_, if_false_, eq_self, not_true_eq_false, not_false_eq_true, true_or, or_true, or_false, false_or, and_true, true_and, and_false, false_and, or_self, and_self, Bool.false_eq_true, ite_self, n25, n20, n24, n100, RS.kk H1, r_isPayment H1 W.1, oa, rg53 H1, ra53 H1, q, rg52 H1, ra52 H1, em, RS.gi H1, ey, q3, hsub, H1.pi, rg53 H2, hw.1]
        · have z : ((2 : Int32) = 0) = False := by decide
          simp (disch := omega) only [f_X12_send, f_X12_send_b29, obs, b10, b01, bm, if_true_, if_false_, eq_self, not_true_eq_false, not_false_eq_true, true_or, or_true, or_false, false_or, and_true, true_and, and_false, false_and, or_self, and_self, Bool.false_eq_true, ite_self, n25, n20, n24, n100, RS.kk H1, r_isPayment H1 W.1, oa, rg53 H1, ra53 H1, q, z, rg52 H1, ra52 H1, em, RS.gi H1, ey, q3, hsub, H1.pi, rg53 H2, hw.1]
    · have q3 : ¬ nI m ≤ nI y := by rw [nI_leI (by omega) (by omega)]; exact q2
      have z : ((2 : Int32) = 0) = False := by decide
      refine ⟨-3, h, h, σ, tr, u, ?_, ?_, S, I.up (by omega)⟩
      · rcases q1 with q | q <;> simp (disch := omega) only [f_X11_send, f_X11_send_b42, obs, b10, b01, bm, if_true_, if_false_, eq_self, not_true_eq_false, not_false_eq_true, true_or, or_true, or_false, false_or, and_true, true_and, and_false, false_and, or_self, and_self, Bool.false_eq_true, ite_self, n25, n20, n24, n100, kk1 C, kr1_10 C, c_has20 C W.1, oa, ka20_3 C, ka20_2 C, q, z, em, ki1_13 C, ey, q3]
      · rcases q1 with q | q <;> simp (disch := omega) only [f_X12_send, f_X12_send_b29, obs, b10, b01, bm, if_true_, if_false_, eq_self, not_true_eq_false, not_false_eq_true, true_or, or_true, or_false, false_or, and_true, true_and, and_false, false_and, or_self, and_self, Bool.false_eq_true, ite_self, n25, n20, n24, n100, RS.kk H, r_isPayment H W.1, oa, rg53 H, ra53 H, q, z, rg52 H, ra52 H, em, RS.gi H, ey, q3]
  · have q2 : ¬ σ.2 53 p = 0 := fun e => q1 (Or.inl e)
    have q3 : ¬ σ.2 53 p = 2 := fun e => q1 (Or.inr e)
    refine ⟨-3, h, h, σ, tr, u, ?_, ?_, S, I.up (by omega)⟩
    · simp (disch := omega) only [f_X11_send, obs, b10, b01, bm, if_true_, if_false_, eq_self, not_true_eq_false, not_false_eq_true, true_or, or_true, or_false, false_or, and_true, true_and, and_false, false_and, or_self, and_self, Bool.false_eq_true, ite_self, n25, n20, n24, n100, kk1 C, kr1_10 C, c_has20 C W.1, oa, ka20_3 C, ka20_2 C, q2, q3]
    · simp (disch := omega) only [f_X12_send, obs, b10, b01, bm, if_true_, if_false_, eq_self, not_true_eq_false, not_false_eq_true, true_or, or_true, or_false, false_or, and_true, true_and, and_false, false_and, or_self, and_self, Bool.false_eq_true, ite_self, n25, n20, n24, n100, RS.kk H, r_isPayment H W.1, oa, rg53 H, ra53 H, q2, q3]
end
