/-! ===== public: cell ===== -/
section
variable {L N : Nat} {xs : Nat → Int32} {h h' : AH} {σ σ' : SG} {tr : Nat → Nat} {u n : Nat}

theorem c_isSheet (C : CS h σ tr u) {v : Int32} : f_X11_isSheet h 1 v = some (if ok v 3 then 1 else 0) := by
  have e : xal h 22 = some (nI 3) := by
    unfold xal
    rw [if_pos (Or.inl (by rw [kk22 C]; decide)), kl C (r := 22) (n := 3) (by decide)]
  unfold f_X11_isSheet
  rw [if_pos (kk1 C), kr1_12 C, obs, e, obs, cin_ok1 (by decide), obs, if_pos (by rw [zi2]; trivial)]
theorem c_isMissing (C : CS h σ tr u) {j : Nat} (hj : j < 3) : f_X6_isMissing h (23 + j) = some (if σ.2 66 j = -1 then 1 else 0) := by
  by_cases q : σ.2 66 j = -1 <;> simp (disch := omega) only [f_X6_isMissing, obs, b10, b01, bm, if_true_, if_false_, eq_self, not_true_eq_false, not_false_eq_true, true_or, or_true, or_false, false_or, and_true, true_and, and_false, false_and, or_self, and_self, Bool.false_eq_true, ite_self, n25, n20, n24, n100, kd23 C, kf23_0 C, q]
theorem c_hasItem1 (C : CS h σ tr u) {j z : Nat} {v : Int32} (hj : j < 3) (hz : σ.2 67 j = nI z) (hz2 : z < 41) : f_X6_hasItems h (23 + j) v 1 = some (if ok v z then 1 else 0) := by
  have e := in_ok1 (h := h) (v := v) (n := z) (by omega)
  unfold f_X12_in at e
  unfold f_X6_hasItems
  rw [if_pos (kd23 C hj), if_neg (show ¬ (1 : Int32) < 0 by decide), kf23_1 C hj, obs, hz]
  exact e
def cutO (sort v : Int32) : Int32 := if sort = 0 then v.toInt8.toInt32 else if sort = 1 then v.toInt16.toInt32 else v
theorem pub_cell {a b c : Int32} (I : INV L xs h σ tr u n) : ∃ v h1 h2 σ' tr' u', f_X11_cell h 1 a b c = some (v, h1) ∧ f_X12_cell h1 100 a b c = some (v, h2) ∧ (kd h1 9000 = 30 ∧ ln h1 9000 = L ∧ ai h1 9000 = xs) ∧ INV L xs h2 σ' tr' u' (n + 1) := by
  obtain ⟨C, H, W, X, S, U⟩ := id I
  have hG := W.1.g
  have hT := W.1.t
  have hF := W.1.f
  have hTl := W.1.tl
  rcases okC a (n := 3) (by decide) with oa | ⟨oa, j, hj, rfl⟩
  · exact ⟨-2, h, h, σ, tr, u, by simp only [f_X11_cell, obs, b10, b01, bm, if_true_, if_false_, eq_self, not_true_eq_false, not_false_eq_true, true_or, or_true, or_false, false_or, and_true, true_and, and_false, false_and, or_self, and_self, Bool.false_eq_true, ite_self, n25, n20, n24, n100, kk1 C, c_isSheet C, oa], by simp only [f_X12_cell, obs, b10, b01, bm, if_true_, if_false_, eq_self, not_true_eq_false, not_false_eq_true, true_or, or_true, or_false, false_or, and_true, true_and, and_false, false_and, or_self, and_self, Bool.false_eq_true, ite_self, n25, n20, n24, n100, RS.kk H, r_isSheet, oa], S, I.up (by omega)⟩
  obtain ⟨z, hz, ez⟩ := (X.2.2.2.2.1 j hj).2
  by_cases q : σ.2 66 j = -1
  · exact ⟨-11, h, h, σ, tr, u, by simp (disch := omega) only [f_X11_cell, obs, b10, b01, bm, if_true_, if_false_, eq_self, not_true_eq_false, not_false_eq_true, true_or, or_true, or_false, false_or, and_true, true_and, and_false, false_and, or_self, and_self, Bool.false_eq_true, ite_self, n25, n20, n24, n100, kk1 C, c_isSheet C, oa, kr1_12 C, ky22 C, c_isMissing C, q], by simp (disch := omega) only [f_X12_cell, obs, b10, b01, bm, if_true_, if_false_, eq_self, not_true_eq_false, not_false_eq_true, true_or, or_true, or_false, false_or, and_true, true_and, and_false, false_and, or_self, and_self, Bool.false_eq_true, ite_self, n25, n20, n24, n100, RS.kk H, r_isSheet, oa, rg66 H, ra66 H, q], S, I.up (by omega)⟩
  rcases okC b (n := z) (by omega) with ob | ⟨ob, i, hi, rfl⟩
  · exact ⟨-12, h, h, σ, tr, u, by simp (disch := first | omega | assumption) only [f_X11_cell, obs, b10, b01, bm, if_true_, if_false_, eq_self, not_true_eq_false, not_false_eq_true, true_or, or_true, or_false, false_or, and_true, true_and, and_false, false_and, or_self, and_self, Bool.false_eq_true, ite_self, n25, n20, n24, n100, kk1 C, c_isSheet C, oa, kr1_12 C, ky22 C, c_isMissing C, q, c_hasItem1 C, ob], by simp (disch := omega) only [f_X12_cell, obs, b10, b01, bm, if_true_, if_false_, eq_self, not_true_eq_false, not_false_eq_true, true_or, or_true, or_false, false_or, and_true, true_and, and_false, false_and, or_self, and_self, Bool.false_eq_true, ite_self, n25, n20, n24, n100, RS.kk H, r_isSheet, oa, rg66 H, ra66 H, q, rg67 H, ra67 H, ez, in_ok1, ob], S, I.up (by omega)⟩
  have hs : f_X6_store h (23 + j) (nI i) c = some (sai h (38 + j) i (cutO (σ.2 66 j) c)) := by
    have hx : ∀ v, xis h (38 + j) (nI i) v = some (sai h (38 + j) i v) := fun v => xis_of (kd38 C hj).1 (kd38 C hj).2 (show i < 40 by omega) (by decide)
    by_cases s0 : σ.2 66 j = 0
    · simp (disch := omega) only [f_X6_store, obs, b10, b01, bm, if_true_, if_false_, eq_self, not_true_eq_false, not_false_eq_true, true_or, or_true, or_false, false_or, and_true, true_and, and_false, false_and, or_self, and_self, Bool.false_eq_true, ite_self, n25, n20, n24, n100, kd23 C, kf23_0 C, s0, kq23_2 C, hx, cutO]
    · by_cases s1 : σ.2 66 j = 1
      · simp (disch := omega) only [f_X6_store, obs, b10, b01, bm, if_true_, if_false_, eq_self, not_true_eq_false, not_false_eq_true, true_or, or_true, or_false, false_or, and_true, true_and, and_false, false_and, or_self, and_self, Bool.false_eq_true, ite_self, n25, n20, n24, n100, kd23 C, kf23_0 C, s1, kq23_2 C, hx, cutO]
      · simp (disch := omega) only [f_X6_store, obs, b10, b01, bm, if_true_, if_false_, eq_self, not_true_eq_false, not_false_eq_true, true_or, or_true, or_false, false_or, and_true, true_and, and_false, false_and, or_self, and_self, Bool.false_eq_true, ite_self, n25, n20, n24, n100, kd23 C, kf23_0 C, s0, s1, kq23_2 C, hx, cutO]
  have C1 : CS (sai h (38 + j) i (cutO (σ.2 66 j) c)) (s2 σ 68 (40 * j + i) (cutO (σ.2 66 j) c)) tr u := C.of rfl rfl rfl rfl (C.d.wB W.1.B (b := 38) (w := 40) (k := 68) (c := 103) (m := 3) (by decide) hj (by omega)) (fun r hr => ai_sai_ne (by omega)) (fun j hj => ⟨rfl, rfl⟩) (fun _ _ => rfl) (fun _ _ => rfl) (ks2_row (by decide)) W.1
  have H1 : RS (sai h (38 + j) i (cutO (σ.2 66 j) c)) σ := rsA H (by omega)
  have w1 := rw68 H1 (n := 40 * j + i) (x := cutO (σ.2 66 j) c) (by omega)
  have S1 : kd (sai h (38 + j) i (cutO (σ.2 66 j) c)) 9000 = 30 ∧ ln (sai h (38 + j) i (cutO (σ.2 66 j) c)) 9000 = L ∧ ai (sai h (38 + j) i (cutO (σ.2 66 j) c)) 9000 = xs := by rw [ai_sai_ne (by omega)]; exact S
  have e40 : (40 : Int32) * nI j + nI i = nI (40 * j + i) := by rw [lt40, nI_mul, nI_add]
  refine ⟨1, _, _, _, tr, u, ?_, ?_, S1, I.st C1 (FRc.a (r := 168) (by omega) (by omega)) w1.2 (W.of (fun _ _ => rfl) (vs2_row (by decide)) (W.2.1.w2_n (by decide)) W.2.2.1) ((X.up (by omega)).of (fun _ _ => rfl) (xs2_row (by decide))) S1 (by omega)⟩
  · simp (disch := first | omega | assumption) only [f_X11_cell, obs, b10, b01, bm, if_true_, if_false_, eq_self, not_true_eq_false, not_false_eq_true, true_or, or_true, or_false, false_or, and_true, true_and, and_false, false_and, or_self, and_self, Bool.false_eq_true, ite_self, n25, n20, n24, n100, kk1 C, c_isSheet C, oa, kr1_12 C, ky22 C, c_isMissing C, q, c_hasItem1 C, ob, hs]
  · have w1' := w1.1
    have m0 : ((0 : Int32) = -1) = False := by decide
    have m1 : ((1 : Int32) = -1) = False := by decide
    by_cases s0 : σ.2 66 j = 0
    · have e0 : cutO (σ.2 66 j) c = c.toInt8.toInt32 := by unfold cutO; rw [if_pos s0]
      rw [e0] at w1' H1 ⊢
      simp (disch := omega) only [f_X12_cell, f_X12_cell_b82, obs, b10, b01, bm, if_true_, if_false_, eq_self, not_true_eq_false, not_false_eq_true, true_or, or_true, or_false, false_or, and_true, true_and, and_false, false_and, or_self, and_self, Bool.false_eq_true, ite_self, n25, n20, n24, n100, RS.kk H1, r_isSheet, oa, rg66 H1, ra66 H1, q, m0, s0, rg67 H1, ra67 H1, ez, in_ok1, ob, rg68 H1, e40, w1']
    · by_cases s1 : σ.2 66 j = 1
      · have e0 : cutO (σ.2 66 j) c = c.toInt16.toInt32 := by unfold cutO; rw [if_neg s0, if_pos s1]
        rw [e0] at w1' H1 ⊢
        simp (disch := omega) only [f_X12_cell, f_X12_cell_b82, obs, b10, b01, bm, if_true_, if_false_, eq_self, not_true_eq_false, not_false_eq_true, true_or, or_true, or_false, false_or, and_true, true_and, and_false, false_and, or_self, and_self, Bool.false_eq_true, ite_self, n25, n20, n24, n100, RS.kk H1, r_isSheet, oa, rg66 H1, ra66 H1, q, m1, s1, rg67 H1, ra67 H1, ez, in_ok1, ob, rg68 H1, e40, w1']
      · have e0 : cutO (σ.2 66 j) c = c := by unfold cutO; rw [if_neg s0, if_neg s1]
        rw [e0] at w1' H1 ⊢
        simp (disch := omega) only [f_X12_cell, f_X12_cell_b82, obs, b10, b01, bm, if_true_, if_false_, eq_self, not_true_eq_false, not_false_eq_true, true_or, or_true, or_false, false_or, and_true, true_and, and_false, false_and, or_self, and_self, Bool.false_eq_true, ite_self, n25, n20, n24, n100, RS.kk H1, r_isSheet, oa, rg66 H1, ra66 H1, q, s0, s1, rg67 H1, ra67 H1, ez, in_ok1, ob, rg68 H1, e40, w1']
end
