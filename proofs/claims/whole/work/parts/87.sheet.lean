/-! ===== public: sheet ===== -/
section
variable {L N : Nat} {xs : Nat → Int32} {h h' : AH} {σ σ' σ0 : SG} {tr : Nat → Nat} {u n : Nat}
def shT (j i : Nat) (y : SG) : SG := s2 y 68 (40 * j + i) 0
theorem c_shtL {j : Nat} (C : CS h σ tr u) (H : RS h σ0) (W : WV σ) (X : WX σ n) (S : kd h 9000 = 30 ∧ ln h 9000 = L ∧ ai h 9000 = xs) (hj : j < 3) (hN : 100 < N) : ∃ h1, f_J7_fill_53178_b5 N N h (38 + j) 0 0 40 = some h1 ∧ CS h1 (itr (shT j) 0 40 σ) tr u ∧ RS h1 σ0 ∧ WV (itr (shT j) 0 40 σ) ∧ WX (itr (shT j) 0 40 σ) n ∧ (kd h1 9000 = 30 ∧ ln h1 9000 = L ∧ ai h1 9000 = xs) := by
  refine (lpS (σ := AH) (α := SG) (fun n i h _ => f_J7_fill_53178_b5 N n h (38 + j) 0 (nI i) 40) (shT j) 40 (fun h' _ => some h') (fun i h' y => CS h' y tr u ∧ RS h' σ0 ∧ WV y ∧ WX y n ∧ (kd h' 9000 = 30 ∧ ln h' 9000 = L ∧ ai h' 9000 = xs)) ?_ ?_ 40 N 0 h σ (by omega) (by omega) ⟨C, H, W, X, S⟩)
  · intro n h' y _
    simp (disch := omega) only [f_J7_fill_53178_b5, f_J7_fill_53178_b5_body, obs, b10, b01, bm, if_true_, if_false_, eq_self, not_true_eq_false, not_false_eq_true, true_or, or_true, or_false, false_or, and_true, true_and, and_false, false_and, or_self, and_self, Bool.false_eq_true, ite_self, n25, n20, n24, n100, lt40, nI_leI, Nat.le_refl]
  · intro n i h' y hi ⟨C', H', W', X', S'⟩
    have hn : ¬ 40 ≤ i := by omega
    have w := xis_of (kd38 C' hj).1 (kd38 C' hj).2 (v := 0) hi (by decide)
    refine ⟨sai h' (38 + j) i 0, ?_, C'.ofA (DD.wB C'.d W'.1.B (b := 38) (w := 40) (k := 68) (c := 103) (m := 3) (by decide) hj hi) (by omega) (fun _ _ => rfl) (ks2_row (by decide)) W'.1, RSof H' rfl rfl rfl rfl (fun k hk => ai_sai_ne (by omega)), W'.of (fun _ _ => rfl) (vs2_row (by decide)) (W'.2.1.w2_n (by decide)) (WL_s2 W'.2.2.1 (by decide)), X'.of (fun _ _ => rfl) (xs2_row (by decide)), ?_⟩
    · simp (disch := omega) only [f_J7_fill_53178_b5, f_J7_fill_53178_b5_body, obs, b10, b01, bm, if_true_, if_false_, eq_self, not_true_eq_false, not_false_eq_true, true_or, or_true, or_false, false_or, and_true, true_and, and_false, false_and, or_self, and_self, Bool.false_eq_true, ite_self, n25, n20, n24, n100, lt40, nI_leI, hn, w, nI_1]
    · show kd h' 9000 = 30 ∧ ln h' 9000 = L ∧ ai (sai h' (38 + j) i 0) 9000 = xs
      rw [ai_sai_ne (by omega)]; exact S'
theorem r_shtL {j : Nat} (H : RS h σ) (hj : j < 3) (hN : 100 < N) : ∃ h2, f_X12_sheet_b71 N N h 100 (nI j) (40 * nI j) = some (1, h2) ∧ RS h2 (itr (shT j) 0 40 σ) ∧ FRc h h2 := by
  have e0 : (40 : Int32) * nI j = nI (40 * j + 0) := by rw [lt40, nI_mul, Nat.add_zero]
  have e1 : (40 : Int32) * nI j + 40 = nI (40 * j + 40) := by rw [lt40, nI_mul, nI_add]
  rw [e0]
  refine (lpS (σ := AH) (α := SG) (fun n i h _ => f_X12_sheet_b71 N n h 100 (nI j) (nI (40 * j + i))) (shT j) 40 (fun h' _ => some (1, h')) (fun i h' y => RS h' y ∧ FRc h h') ?_ ?_ 40 N 0 h σ (by omega) (by omega) ⟨H, FRc.refl⟩)
  · intro n h' y _
    simp (disch := omega) only [f_X12_sheet_b71, f_X12_sheet_b71_body, obs, b10, b01, bm, if_true_, if_false_, eq_self, not_true_eq_false, not_false_eq_true, true_or, or_true, or_false, false_or, and_true, true_and, and_false, false_and, or_self, and_self, Bool.false_eq_true, ite_self, n25, n20, n24, n100, e1, nI_leI, Nat.le_refl]
  · intro n i h' y hi ⟨H', F'⟩
    have hn : ¬ 40 * j + 40 ≤ 40 * j + i := by omega
    have w := rw68 H' (n := 40 * j + i) (x := 0) (by omega)
    refine ⟨sai h' 168 (40 * j + i) 0, ?_, w.2, F'.trans (FRc.a (by omega) (by omega))⟩
    simp (disch := omega) only [f_X12_sheet_b71, f_X12_sheet_b71_body, obs, b10, b01, bm, if_true_, if_false_, eq_self, not_true_eq_false, not_false_eq_true, true_or, or_true, or_false, false_or, and_true, true_and, and_false, false_and, or_self, and_self, Bool.false_eq_true, ite_self, n25, n20, n24, n100, e1, nI_leI, hn, rg68 H', w.1, nI_1]
    rfl
theorem pub_sheet {a b c : Int32} (I : INV L xs h σ tr u n) (hN : 2000 < N) : ∃ v h1 h2 σ' tr' u', f_X11_sheet h N 1 a b c = some (v, h1) ∧ f_X12_sheet h1 N 100 a b c = some (v, h2) ∧ (kd h1 9000 = 30 ∧ ln h1 9000 = L ∧ ai h1 9000 = xs) ∧ INV L xs h2 σ' tr' u' (n + 1) := by
  obtain ⟨C, H, W, X, S, U⟩ := id I
  rcases okC a (n := 3) (by decide) with oa | ⟨oa, j, hj, rfl⟩
  · exact ⟨-2, h, h, σ, tr, u, by simp only [f_X11_sheet, obs, b10, b01, bm, if_true_, if_false_, eq_self, not_true_eq_false, not_false_eq_true, true_or, or_true, or_false, false_or, and_true, true_and, and_false, false_and, or_self, and_self, Bool.false_eq_true, ite_self, n25, n20, n24, n100, kk1 C, c_isSheet C, oa], by simp only [f_X12_sheet, obs, b10, b01, bm, if_true_, if_false_, eq_self, not_true_eq_false, not_false_eq_true, true_or, or_true, or_false, false_or, and_true, true_and, and_false, false_and, or_self, and_self, Bool.false_eq_true, ite_self, n25, n20, n24, n100, RS.kk H, r_isSheet, oa], S, I.up (by omega)⟩
  have go : ∀ z, bd (b + 1) 4 → bd z 41 → f_X11_sheet h N 1 (nI j) b c = (f_X6_become h N (23 + j) b z).bind (fun q => some (1, q)) → (∀ h2, RS h2 σ → f_X12_sheet h2 N 100 (nI j) b c = f_X12_sheet_b42 N h2 100 (nI j) b c) → (if b = -1 then 0 else c) = z → ∃ v h1 h2 σ' tr' u', f_X11_sheet h N 1 (nI j) b c = some (v, h1) ∧ f_X12_sheet h1 N 100 (nI j) b c = some (v, h2) ∧ (kd h1 9000 = 30 ∧ ln h1 9000 = L ∧ ai h1 9000 = xs) ∧ INV L xs h2 σ' tr' u' (n + 1) := by
    intro z b1 b2 x1 x2 ez
    have C1 : CS (sfi h (23 + j) 0 b) (s2 σ 66 j b) tr u := C.ofF (DD.wF C.d W.1.F (b := 23) (f := 0) (k := 66) (c := 103) (m := 3) (by decide) hj) (by omega) (fun _ _ => rfl) (ks2_row (by decide)) W.1
    have W1 : WV (s2 σ 66 j b) := W.of (fun _ _ => rfl) (vs2_row (by decide)) (W.2.1.w2_n (by decide)) (WL_s2 W.2.2.1 (by decide))
    have C2 : CS (sfi (sfi h (23 + j) 0 b) (23 + j) 1 z) (s2 (s2 σ 66 j b) 67 j z) tr u := C1.ofF (DD.wF C1.d W1.1.F (b := 23) (f := 1) (k := 67) (c := 103) (m := 3) (by decide) hj) (by omega) (fun _ _ => rfl) (ks2_row (by decide)) W1.1
    have W2 : WV (s2 (s2 σ 66 j b) 67 j z) := W1.of (fun _ _ => rfl) (vs2_row (by decide)) (W1.2.1.w2_n (by decide)) (WL_s2 W1.2.2.1 (by decide))
    have X2 : WX (s2 (s2 σ 66 j b) 67 j z) n := by
      obtain ⟨y1, y2, y3, y4, y5, y6, y7⟩ := X
      refine ⟨y1, y2, y3, y4, fun i hi => ?_, y6, y7⟩
      have y := y5 i hi
      rw [s2_row (show 66 ≠ 67 by decide), s2_ite, s2_ite, s2_row (show 67 ≠ 66 by decide)]
      by_cases e : i = j
      · rw [if_pos ⟨rfl, e⟩, if_pos ⟨rfl, e⟩]; exact ⟨b1, b2⟩
      · rw [if_neg (fun q => e q.2), if_neg (fun q => e q.2)]; exact y
    have H1 : RS (sfi h (23 + j) 0 b) σ := RSof H rfl rfl rfl (fi_sfi_ne (by omega)) (fun k hk => rfl)
    have H2 : RS (sfi (sfi h (23 + j) 0 b) (23 + j) 1 z) σ := RSof H1 rfl rfl rfl (fi_sfi_ne (by omega)) (fun k hk => rfl)
    obtain ⟨h1, e1, C3, H3, W3, X3, S3⟩ := c_shtL (N := N) C2 H2 W2 X2 S hj (by omega)
    have w1 := rw66 H3 (n := j) (x := b) hj
    have w2 := rw67 w1.2 (n := j) (x := z) hj
    obtain ⟨h2, e2, H4, F4⟩ := r_shtL (N := N) w2.2 hj (by omega)
    refine ⟨1, h1, h2, itr (shT j) 0 40 (s2 (s2 σ 66 j b) 67 j z), tr, u, ?_, ?_, S3, I.st C3 (((FRc.a (by omega) (by omega)).trans (FRc.a (by omega) (by omega))).trans F4) H4 W3 (X3.up (by omega)) S3 (by omega)⟩
    · have p1 : xpi h (23 + j) 7 0 b = some (sfi h (23 + j) 0 b) := xpi_ok (kd23 C hj)
      have p2 : xpi (sfi h (23 + j) 0 b) (23 + j) 7 1 z = some (sfi (sfi h (23 + j) 0 b) (23 + j) 1 z) := xpi_ok (kd23 C1 hj)
      have al : xal (sfi (sfi h (23 + j) 0 b) (23 + j) 1 z) (38 + j) = some 40 := by unfold xal; rw [if_pos (Or.inl (by rw [(kd38 C2 hj).1]; decide)), (kd38 C2 hj).2]; rfl
      rw [x1]
      simp (disch := omega) only [f_X6_become, f_J7_fill_53178, obs, b10, b01, bm, if_true_, if_false_, eq_self, not_true_eq_false, not_false_eq_true, true_or, or_true, or_false, false_or, and_true, true_and, and_false, false_and, or_self, and_self, Bool.false_eq_true, ite_self, n25, n20, n24, n100, kd23 C, p1, p2, kq23_2 C2, al, e1]
    · rw [x2 h1 H3]
      by_cases q : b = -1
      · rw [if_pos q] at ez
        subst ez
        unfold f_X12_sheet_b42 f_X12_sheet_b64
        rw [rg66 H3, obs, w1.1, obs, rg67 w1.2, obs, if_pos q, w2.1, obs, e2]
      · rw [if_neg q] at ez
        subst ez
        simp (disch := omega) only [f_X12_sheet_b42, f_X12_sheet_b64, obs, b10, b01, bm, if_true_, if_false_, eq_self, not_true_eq_false, not_false_eq_true, true_or, or_true, or_false, false_or, and_true, true_and, and_false, false_and, or_self, and_self, Bool.false_eq_true, ite_self, n25, n20, n24, n100, rg66 H3, w1.1, rg67 w1.2, q, w2.1, e2]
  by_cases q0 : b = -1
  · subst q0
    refine go 0 ⟨0, by omega, by decide⟩ ⟨0, by omega, rfl⟩ ?_ (fun h2 H2 => ?_) (if_pos rfl)
    · simp (disch := omega) only [f_X11_sheet, obs, b10, b01, bm, if_true_, if_false_, eq_self, not_true_eq_false, not_false_eq_true, true_or, or_true, or_false, false_or, and_true, true_and, and_false, false_and, or_self, and_self, Bool.false_eq_true, ite_self, n25, n20, n24, n100, kk1 C, c_isSheet C, oa, kr1_12 C, ky22 C]
    · have ri : f_X12_in h2 (-1) (-1) 2 = some 1 := rfl
      simp (disch := omega) only [f_X12_sheet, f_X12_sheet_b30, obs, b10, b01, bm, if_true_, if_false_, eq_self, not_true_eq_false, not_false_eq_true, true_or, or_true, or_false, false_or, and_true, true_and, and_false, false_and, or_self, and_self, Bool.false_eq_true, ite_self, n25, n20, n24, n100, RS.kk H2, r_isSheet, oa, ri]
  rcases okC b (n := 3) (by decide) with ob | ⟨ob, s, hs, rfl⟩
  · have ri : f_X12_in h b (-1) 2 = some 0 := by
      rcases in_m1 (h := h) (v := b) (m := 3) (hi := 2) (by decide) (by decide) with i | i
      · exact i.1
      · exfalso
        obtain ⟨k, hk, ek⟩ := i.2.2
        rcases Nat.eq_zero_or_pos k with k0 | k0
        · subst k0
          apply q0
          have : b + 1 - 1 = nI 0 - 1 := by rw [ek]
          rw [Int32.add_sub_cancel] at this
          rw [this]; rfl
        · obtain ⟨k', rfl⟩ : ∃ k', k = k' + 1 := ⟨k - 1, by omega⟩
          have : b + 1 - 1 = nI (k' + 1) - 1 := by rw [ek]
          rw [Int32.add_sub_cancel, ← nI_1, Int32.add_sub_cancel] at this
          rw [this, ok_nI (by decide) (by omega)] at ob
          cases ob
    exact ⟨-2, h, h, σ, tr, u, by simp only [f_X11_sheet, obs, b10, b01, bm, if_true_, if_false_, eq_self, not_true_eq_false, not_false_eq_true, true_or, or_true, or_false, false_or, and_true, true_and, and_false, false_and, or_self, and_self, Bool.false_eq_true, ite_self, n25, n20, n24, n100, kk1 C, c_isSheet C, oa, q0, c_isSort, ob], by simp only [f_X12_sheet, obs, b10, b01, bm, if_true_, if_false_, eq_self, not_true_eq_false, not_false_eq_true, true_or, or_true, or_false, false_or, and_true, true_and, and_false, false_and, or_self, and_self, Bool.false_eq_true, ite_self, n25, n20, n24, n100, RS.kk H, r_isSheet, oa, ri], S, I.up (by omega)⟩
  have ri : ∀ h2, f_X12_in h2 (nI s) (-1) 2 = some 1 := by
    intro h2
    have s3 : s = 0 ∨ s = 1 ∨ s = 2 := by omega
    rcases s3 with rfl | rfl | rfl <;> rfl
  by_cases q1 : c ≤ 40
  · by_cases q2 : 0 ≤ c
    · obtain ⟨k, hk, rfl⟩ := nI_of (Int32.not_lt.mpr q2)
      have k40 : k ≤ 40 := by rwa [lt40, nI_leI hk (by omega)] at q1
      refine go (nI k) ⟨s + 1, by omega, nI_1 s⟩ ⟨k, by omega, rfl⟩ ?_ (fun h2 H2 => ?_) (if_neg q0)
      · simp (disch := omega) only [f_X11_sheet, obs, b10, b01, bm, if_true_, if_false_, eq_self, not_true_eq_false, not_false_eq_true, true_or, or_true, or_false, false_or, and_true, true_and, and_false, false_and, or_self, and_self, Bool.false_eq_true, ite_self, n25, n20, n24, n100, kk1 C, c_isSheet C, oa, q0, c_isSort, ob, q1, q2, kr1_12 C, ky22 C]
      · simp (disch := omega) only [f_X12_sheet, f_X12_sheet_b30, obs, b10, b01, bm, if_true_, if_false_, eq_self, not_true_eq_false, not_false_eq_true, true_or, or_true, or_false, false_or, and_true, true_and, and_false, false_and, or_self, and_self, Bool.false_eq_true, ite_self, n25, n20, n24, n100, RS.kk H2, r_isSheet, oa, ri, q0, q1, q2]
    · exact ⟨-14, h, h, σ, tr, u, by simp only [f_X11_sheet, obs, b10, b01, bm, if_true_, if_false_, eq_self, not_true_eq_false, not_false_eq_true, true_or, or_true, or_false, false_or, and_true, true_and, and_false, false_and, or_self, and_self, Bool.false_eq_true, ite_self, n25, n20, n24, n100, kk1 C, c_isSheet C, oa, q0, c_isSort, ob, q1, q2], by simp only [f_X12_sheet, f_X12_sheet_b30, obs, b10, b01, bm, if_true_, if_false_, eq_self, not_true_eq_false, not_false_eq_true, true_or, or_true, or_false, false_or, and_true, true_and, and_false, false_and, or_self, and_self, Bool.false_eq_true, ite_self, n25, n20, n24, n100, RS.kk H, r_isSheet, oa, ri, q0, q1, q2], S, I.up (by omega)⟩
  · exact ⟨-2, h, h, σ, tr, u, by simp only [f_X11_sheet, obs, b10, b01, bm, if_true_, if_false_, eq_self, not_true_eq_false, not_false_eq_true, true_or, or_true, or_false, false_or, and_true, true_and, and_false, false_and, or_self, and_self, Bool.false_eq_true, ite_self, n25, n20, n24, n100, kk1 C, c_isSheet C, oa, q0, c_isSort, ob, q1], by simp only [f_X12_sheet, obs, b10, b01, bm, if_true_, if_false_, eq_self, not_true_eq_false, not_false_eq_true, true_or, or_true, or_false, false_or, and_true, true_and, and_false, false_and, or_self, and_self, Bool.false_eq_true, ite_self, n25, n20, n24, n100, RS.kk H, r_isSheet, oa, ri, q0, q1], S, I.up (by omega)⟩
end
