/-! ===== public: copy ===== -/
section
variable {L N : Nat} {xs : Nat → Int32} {h h' : AH} {σ σ' : SG} {tr : Nat → Nat} {u n : Nat}
def CPY (σ σ' : SG) (a b m : Nat) : Prop := (∀ k, σ'.1 k = σ.1 k) ∧ (∀ r, r ≠ 76 → r ≠ 68 → σ'.2 r = σ.2 r) ∧ ∀ p, σ'.2 68 p = if b ≤ p ∧ p < b + m then σ.2 68 (a + (p - b)) else σ.2 68 p
def cpT (a w : Nat) (y : SG) : SG := s2 y 76 w (y.2 68 (a + w))
def cpU (b w : Nat) (y : SG) : SG := s2 y 68 (b + w) (y.2 76 w)
theorem r_cp2 {jb k m : Nat} {f : Nat → Int32} (H : RS h σ) (hj : jb < 3) (hm : k + m ≤ 40) (hN : 100 < N) (g : ∀ v, v < m → σ.2 76 v = f v) : ∃ h2 σ', f_X12_copy_b142 N N h 100 (nI jb) (nI k) (nI m) 0 = some (nI m, h2) ∧ RS h2 σ' ∧ FRc h h2 ∧ (∀ r, σ'.1 r = σ.1 r) ∧ (∀ r, r ≠ 68 → σ'.2 r = σ.2 r) ∧ ∀ p, σ'.2 68 p = if 40 * jb + k ≤ p ∧ p < 40 * jb + k + m then f (p - (40 * jb + k)) else σ.2 68 p := by
  refine (lpS (σ := AH) (α := SG) (fun n w h _ => f_X12_copy_b142 N n h 100 (nI jb) (nI k) (nI m) (nI w)) (cpU (40 * jb + k)) m (fun h' _ => some (nI m, h')) (fun w h' y => RS h' y ∧ FRc h h' ∧ (∀ r, y.1 r = σ.1 r) ∧ (∀ r, r ≠ 68 → y.2 r = σ.2 r) ∧ ∀ p, y.2 68 p = if 40 * jb + k ≤ p ∧ p < 40 * jb + k + w then f (p - (40 * jb + k)) else σ.2 68 p) ?_ ?_ m N 0 h σ (by omega) (by omega) ⟨H, FRc.refl, fun _ => rfl, fun _ _ => rfl, fun p => by rw [if_neg (by omega)]⟩).elim (fun h2 e => ⟨h2, _, e.1, e.2⟩)
  · intro n h' y _
    simp (disch := omega) only [f_X12_copy_b142, f_X12_copy_b142_body, obs, b10, b01, bm, if_true_, if_false_, eq_self, not_true_eq_false, not_false_eq_true, true_or, or_true, or_false, false_or, and_true, true_and, and_false, false_and, or_self, and_self, Bool.false_eq_true, ite_self, n25, n20, n24, n100, nI_leI, Nat.le_refl]
  · intro n w h' y hw ⟨H', F', y1, y2, y3⟩
    have hn : ¬ m ≤ w := by omega
    have e40 : (40 : Int32) * nI jb + nI k + nI w = nI (40 * jb + k + w) := by rw [lt40, nI_mul, nI_add, nI_add]
    have v := ra76 H' (n := w) (by omega)
    have e := rw68 H' (n := 40 * jb + k + w) (x := y.2 76 w) (by omega)
    refine ⟨sai h' 168 (40 * jb + k + w) (y.2 76 w), ?_, e.2, F'.trans (FRc.a (by omega) (by omega)), y1, fun r hr => ?_, fun p => ?_⟩
    · simp (disch := omega) only [f_X12_copy_b142, f_X12_copy_b142_body, obs, b10, b01, bm, if_true_, if_false_, eq_self, not_true_eq_false, not_false_eq_true, true_or, or_true, or_false, false_or, and_true, true_and, and_false, false_and, or_self, and_self, Bool.false_eq_true, ite_self, n25, n20, n24, n100, nI_leI, hn, rg68 H', rg76 H', v, e40, e.1, nI_1]
    · rw [show (cpU (40 * jb + k) w y).2 r = y.2 r from s2_row hr]; exact y2 r hr
    · show (s2 y 68 (40 * jb + k + w) (y.2 76 w)).2 68 p = _
      rw [s2_ite, y2 76 (by decide), g w hw, y3]
      by_cases ep : p = 40 * jb + k + w
      · rw [if_pos ⟨rfl, ep⟩, if_pos (by omega), show p - (40 * jb + k) = w by omega]
      · rw [if_neg (fun q => ep q.2)]
        by_cases eq : 40 * jb + k ≤ p ∧ p < 40 * jb + k + w
        · rw [if_pos eq, if_pos (by omega)]
        · rw [if_neg eq, if_neg (by omega)]
theorem r_cp1 {ja jb i k m : Nat} (H : RS h σ) (hj : ja < 3) (hj2 : jb < 3) (hm : i + m ≤ 40) (hm2 : k + m ≤ 40) (hN : 100 < N) : ∃ h2 σ', f_X12_copy_b105 N N h 100 (nI ja) (nI i) (nI jb) (nI k) (nI m) 0 = some (nI m, h2) ∧ RS h2 σ' ∧ FRc h h2 ∧ CPY σ σ' (40 * ja + i) (40 * jb + k) m := by
  obtain ⟨h2, e, H2, F2, y1, y2, y3⟩ := (lpS (σ := AH) (α := SG) (fun n w h _ => f_X12_copy_b105 N n h 100 (nI ja) (nI i) (nI jb) (nI k) (nI m) (nI w)) (cpT (40 * ja + i)) m (fun h' _ => f_X12_copy_b142 N N h' 100 (nI jb) (nI k) (nI m) 0) (fun w h' y => RS h' y ∧ FRc h h' ∧ (∀ r, y.1 r = σ.1 r) ∧ (∀ r, r ≠ 76 → y.2 r = σ.2 r) ∧ ∀ v, v < w → y.2 76 v = σ.2 68 (40 * ja + i + v)) (by
    intro n h' y _
    simp (disch := omega) only [f_X12_copy_b105, f_X12_copy_b105_body, obs, b10, b01, bm, if_true_, if_false_, eq_self, not_true_eq_false, not_false_eq_true, true_or, or_true, or_false, false_or, and_true, true_and, and_false, false_and, or_self, and_self, Bool.false_eq_true, ite_self, n25, n20, n24, n100, nI_leI, Nat.le_refl]) (by
    intro n w h' y hw ⟨H', F', y1, y2, y3⟩
    have hn : ¬ m ≤ w := by omega
    have e40 : (40 : Int32) * nI ja + nI i + nI w = nI (40 * ja + i + w) := by rw [lt40, nI_mul, nI_add, nI_add]
    have v := ra68 H' (n := 40 * ja + i + w) (by omega)
    have e := rw76 H' (n := w) (x := y.2 68 (40 * ja + i + w)) (by omega)
    refine ⟨sai h' 176 w (y.2 68 (40 * ja + i + w)), ?_, e.2, F'.trans (FRc.a (by omega) (by omega)), y1, fun r hr => ?_, fun v hv => ?_⟩
    · simp (disch := omega) only [f_X12_copy_b105, f_X12_copy_b105_body, obs, b10, b01, bm, if_true_, if_false_, eq_self, not_true_eq_false, not_false_eq_true, true_or, or_true, or_false, false_or, and_true, true_and, and_false, false_and, or_self, and_self, Bool.false_eq_true, ite_self, n25, n20, n24, n100, nI_leI, hn, rg68 H', rg76 H', v, e40, e.1, nI_1]
    · rw [show (cpT (40 * ja + i) w y).2 r = y.2 r from s2_row hr]; exact y2 r hr
    · show (s2 y 76 w (y.2 68 (40 * ja + i + w))).2 76 v = _
      rw [s2_ite, y2 68 (by decide)]
      by_cases ep : v = w
      · rw [if_pos ⟨rfl, ep⟩, ep]
      · rw [if_neg (fun q => ep q.2)]; exact y3 v (by omega)) m N 0 h σ (by omega) (by omega) ⟨H, FRc.refl, fun _ => rfl, fun _ _ => rfl, fun v hv => absurd hv (by omega)⟩)
  obtain ⟨h3, σ3, e3, H3, F3, z1, z2, z3⟩ := r_cp2 (N := N) (jb := jb) (k := k) (m := m) (f := fun v => σ.2 68 (40 * ja + i + v)) H2 hj2 hm2 hN y3
  have e' : f_X12_copy_b105 N N h 100 (nI ja) (nI i) (nI jb) (nI k) (nI m) 0 = _ := e
  refine ⟨h3, σ3, e'.trans e3, H3, F2.trans F3, fun r => by rw [z1, y1], fun r h1 h2 => by rw [z2 r h2, y2 r h1], fun p => ?_⟩
  rw [z3 p, y2 68 (by decide)]
theorem nIs1 {a b : Nat} (ha : a < 2 ^ 31) (hb : b < 2 ^ 31) : (nI a - nI b).toInt = (a : Int) - b := by
  have h1 := nI_toInt (n := a) (by omega)
  have h2 := nI_toInt (n := b) (by omega)
  rw [i3_sub (by rw [h1, h2]; omega) (by rw [h1, h2]; omega), h1, h2]
theorem ai_srow {r a : Nat} {f : Nat → Int32} : ai (srow h r f) a = if a = r then f else ai h a := rfl
theorem cpy_cs {ja jb i k m : Nat} (C : CS h σ tr u) (W : CT σ) (hj : ja < 3) (hj2 : jb < 3) (hm : i + m ≤ 40) (hm2 : k + m ≤ 40) (Y : CPY σ σ' (40 * ja + i) (40 * jb + k) m) : CS (srow h (38 + jb) (va_cpy (ai h (38 + ja)) (ai h (38 + jb)) i k m)) σ' tr u := by
  obtain ⟨y1, y2, y3⟩ := Y
  obtain ⟨d1, d2, d3, d4, d5⟩ := C.d
  have tF : ∀ q ∈ dF, q.2.2.1 ≠ 76 ∧ q.2.2.1 ≠ 68 := by decide
  have tA : ∀ q ∈ dA, q.2.2.2.1 ≠ 76 ∧ q.2.2.2.1 ≠ 68 ∧ q.1 < 38 := by decide
  have tB : ∀ q ∈ dB, (q.2.2.1 ≠ 76 ∧ q.2.2.1 ≠ 68 ∧ 300 ≤ q.1) ∨ q = (38, 40, 68, 103, 3) := by decide
  have cT : ∀ c, ct σ' c = ct σ c := fun c => by unfold ct cn; rw [y1]
  refine C.of rfl rfl rfl rfl ⟨fun q hq => ?_, d2, fun q hq j hJ => ?_, fun q hq j hJ => ?_, fun q hq j hJ x hx => ?_⟩ (fun r hr => ?_) (fun j hj => ⟨rfl, rfl⟩) (fun _ _ => rfl) (fun r _ => y1 r) (fun r hr => ?_) W
  · rw [y1]; exact d1 q hq
  · rw [cT] at hJ
    rw [y2 _ (tF q hq).1 (tF q hq).2]; exact d3 q hq j hJ
  · have t := tA q hq
    rw [y2 _ t.1 t.2.1, ai_srow, if_neg (by omega)]; exact d4 q hq j hJ
  · rw [cT] at hJ
    rcases tB q hq with t | t
    · rw [y2 _ t.1 t.2.1, ai_srow, if_neg (by omega)]; exact d5 q hq j hJ x hx
    · subst t
      have hj3 : j < 3 := hJ
      have hx4 : x < 40 := hx
      show ai (srow h (38 + jb) (va_cpy (ai h (38 + ja)) (ai h (38 + jb)) i k m)) (38 + j) x = σ'.2 68 (40 * j + x)
      rw [y3, ai_srow]
      have b1 : ∀ j x, j < 3 → x < 40 → ai h (38 + j) x = σ.2 68 (40 * j + x) := fun j x a b => d5 (38, 40, 68, 103, 3) hq j a x b
      by_cases ej : j = jb
      · subst ej
        rw [if_pos rfl]
        unfold va_cpy
        by_cases ex : k ≤ x ∧ x < k + m
        · rw [if_pos ex, if_pos (by omega), b1 ja _ hj (by omega)]
          exact congrArg (σ.2 68) (by omega)
        · rw [if_neg ex, if_neg (by omega), b1 j x hj3 hx4]
      · rw [if_neg (by omega), if_neg (by omega), b1 j x hj3 hx4]
  · rw [ai_srow, if_neg (by omega)]
  · have t : ∀ r ∈ ks2, r ≠ 76 ∧ r ≠ 68 := by decide
    exact y2 r (t r hr).1 (t r hr).2
theorem cpy_wv {a b m : Nat} (W : WV σ) (Y : CPY σ σ' a b m) : WV σ' := by
  obtain ⟨y1, y2, y3⟩ := Y
  have cT : ∀ c, ct σ' c = ct σ c := fun c => by unfold ct cn; rw [y1]
  refine W.of (fun k _ => y1 k) (fun k hk => ?_) (fun q hq i hi => ?_) ?_
  · have t : ∀ r ∈ vs2, r ≠ 76 ∧ r ≠ 68 := by decide
    exact y2 k (t k hk).1 (t k hk).2
  · have t : ∀ q ∈ wR, q.1 ≠ 76 ∧ q.1 ≠ 68 := by decide
    rw [cT] at hi
    rw [cT, y2 _ (t q hq).1 (t q hq).2]; exact W.2.1 q hq i hi
  · unfold WL
    rw [y2 5 (by decide) (by decide)]; exact W.2.2.1
theorem cpy_wx {a b m : Nat} (X : WX σ n) (Y : CPY σ σ' a b m) : WX σ' n := by
  obtain ⟨y1, y2, y3⟩ := Y
  refine X.of (fun k _ => y1 k) (fun k hk => ?_)
  have t : ∀ r ∈ xs2, r ≠ 76 ∧ r ≠ 68 := by decide
  exact y2 k (t k hk).1 (t k hk).2
theorem pub_copy {a b c d e : Int32} (I : INV L xs h σ tr u n) (hN : 2000 < N) : ∃ v h1 h2 σ' tr' u', f_X11_copy h 1 a b c d e = some (v, h1) ∧ f_X12_copy h1 N 100 a b c d e = some (v, h2) ∧ (kd h1 9000 = 30 ∧ ln h1 9000 = L ∧ ai h1 9000 = xs) ∧ INV L xs h2 σ' tr' u' (n + 1) := by
  obtain ⟨C, H, W, X, S, U⟩ := id I
  rcases okC a (n := 3) (by decide) with oa | ⟨oa, ja, hja, rfl⟩
  · exact ⟨-2, h, h, σ, tr, u, by simp only [f_X11_copy, obs, b10, b01, bm, if_true_, if_false_, eq_self, not_true_eq_false, not_false_eq_true, true_or, or_true, or_false, false_or, and_true, true_and, and_false, false_and, or_self, and_self, Bool.false_eq_true, ite_self, n25, n20, n24, n100, kk1 C, c_isSheet C, oa], by simp only [f_X12_copy, obs, b10, b01, bm, if_true_, if_false_, eq_self, not_true_eq_false, not_false_eq_true, true_or, or_true, or_false, false_or, and_true, true_and, and_false, false_and, or_self, and_self, Bool.false_eq_true, ite_self, n25, n20, n24, n100, RS.kk H, r_isSheet, oa], S, I.up (by omega)⟩
  rcases okC c (n := 3) (by decide) with oc | ⟨oc, jb, hjb, rfl⟩
  · exact ⟨-2, h, h, σ, tr, u, by simp only [f_X11_copy, obs, b10, b01, bm, if_true_, if_false_, eq_self, not_true_eq_false, not_false_eq_true, true_or, or_true, or_false, false_or, and_true, true_and, and_false, false_and, or_self, and_self, Bool.false_eq_true, ite_self, n25, n20, n24, n100, kk1 C, c_isSheet C, oa, oc], by simp only [f_X12_copy, obs, b10, b01, bm, if_true_, if_false_, eq_self, not_true_eq_false, not_false_eq_true, true_or, or_true, or_false, false_or, and_true, true_and, and_false, false_and, or_self, and_self, Bool.false_eq_true, ite_self, n25, n20, n24, n100, RS.kk H, r_isSheet, oa, oc], S, I.up (by omega)⟩
  by_cases q0 : σ.2 66 ja = -1
  · have rA : f_X12_isSheet h (nI ja) = some 1 := by rw [r_isSheet, oa]; rfl
    have rB : f_X12_isSheet h (nI jb) = some 1 := by rw [r_isSheet, oc]; rfl
    have z10 : ¬ (1 : Int32) = 0 := by decide
    exact ⟨-11, h, h, σ, tr, u, by simp (disch := omega) only [f_X11_copy, obs, b10, b01, bm, if_true_, if_false_, eq_self, not_true_eq_false, not_false_eq_true, true_or, or_true, or_false, false_or, and_true, true_and, and_false, false_and, or_self, and_self, Bool.false_eq_true, ite_self, n25, n20, n24, n100, kk1 C, c_isSheet C, oa, oc, kr1_12 C, ky22 C, c_isMissing C, q0], by unfold f_X12_copy; rw [if_pos (RS.kk H), rA, obs, if_neg z10, rB, obs, if_neg z10, rg66 H, obs, ra66 H hja, obs, if_pos q0], S, I.up (by omega)⟩
  by_cases q1 : σ.2 66 jb = -1
  · have q1 : (σ.2 66 jb = -1) = True := eq_true q1
    exact ⟨-11, h, h, σ, tr, u, by simp (disch := omega) only [f_X11_copy, obs, b10, b01, bm, if_true_, if_false_, eq_self, not_true_eq_false, not_false_eq_true, true_or, or_true, or_false, false_or, and_true, true_and, and_false, false_and, or_self, and_self, Bool.false_eq_true, ite_self, n25, n20, n24, n100, kk1 C, c_isSheet C, oa, oc, kr1_12 C, ky22 C, c_isMissing C, q0, q1], by simp (disch := omega) only [f_X12_copy, obs, b10, b01, bm, if_true_, if_false_, eq_self, not_true_eq_false, not_false_eq_true, true_or, or_true, or_false, false_or, and_true, true_and, and_false, false_and, or_self, and_self, Bool.false_eq_true, ite_self, n25, n20, n24, n100, RS.kk H, r_isSheet, oa, oc, rg66 H, ra66 H, q0, q1], S, I.up (by omega)⟩
  by_cases qs : σ.2 66 ja = σ.2 66 jb
  · have q1' : ¬ σ.2 66 jb = -1 := q1
    have x1 : f_X11_copy h 1 (nI ja) b (nI jb) d e = (if (if b < 0 ∨ e < 0 ∨ σ.2 67 ja - e < b then (0 : Int32) else 1) = 0 then some (-12, h) else if (if d < 0 ∨ e < 0 ∨ σ.2 67 jb - e < d then (0 : Int32) else 1) = 0 then some (-12, h) else (xcpi h (38 + ja) b (38 + jb) d e).bind fun h22 => some (e, h22)) := by
      simp (disch := omega) only [f_X11_copy, obs, b10, b01, bm, if_true_, if_false_, eq_self, not_true_eq_false, not_false_eq_true, true_or, or_true, or_false, false_or, and_true, true_and, and_false, false_and, or_self, and_self, Bool.false_eq_true, ite_self, n25, n20, n24, n100, kk1 C, c_isSheet C, oa, oc, kr1_12 C, ky22 C, c_isMissing C, q0, q1, kf23_0 C, qs, c_hasItems C, kq23_2 C]
    have x2 : ∀ h2, RS h2 σ → f_X12_copy h2 N 100 (nI ja) b (nI jb) d e = (if e < 0 then some (-12, h2) else if b < 0 then some (-12, h2) else if d < 0 then some (-12, h2) else if σ.2 67 ja - b < e then some (-12, h2) else if e ≤ σ.2 67 jb - d then f_X12_copy_b105 N N h2 100 (nI ja) b (nI jb) d e 0 else some (-12, h2)) := by
      intro h2 H2
      simp (disch := omega) only [f_X12_copy, obs, b10, b01, bm, if_true_, if_false_, eq_self, not_true_eq_false, not_false_eq_true, true_or, or_true, or_false, false_or, and_true, true_and, and_false, false_and, or_self, and_self, Bool.false_eq_true, ite_self, n25, n20, n24, n100, RS.kk H2, r_isSheet, oa, oc, rg66 H2, ra66 H2, q0, q1, qs, rg67 H2, ra67 H2]
    have m12 : (∃ h', f_X11_copy h 1 (nI ja) b (nI jb) d e = some (-12, h') ∧ h' = h) → f_X12_copy h N 100 (nI ja) b (nI jb) d e = some (-12, h) → ∃ v h1 h2 σ' tr' u', f_X11_copy h 1 (nI ja) b (nI jb) d e = some (v, h1) ∧ f_X12_copy h1 N 100 (nI ja) b (nI jb) d e = some (v, h2) ∧ (kd h1 9000 = 30 ∧ ln h1 9000 = L ∧ ai h1 9000 = xs) ∧ INV L xs h2 σ' tr' u' (n + 1) := by
      rintro ⟨h', e1, rfl⟩ e2
      exact ⟨-12, h', h', σ, tr, u, e1, e2, S, I.up (by omega)⟩
    have z0 : (0 : Int32) = 0 := rfl
    by_cases qe : e < 0
    · exact m12 ⟨h, by rw [x1, if_pos (Or.inr (Or.inl qe)), if_pos rfl], rfl⟩ (by rw [x2 h H, if_pos qe])
    by_cases qb : b < 0
    · exact m12 ⟨h, by rw [x1, if_pos (Or.inl qb), if_pos rfl], rfl⟩ (by rw [x2 h H, if_neg qe, if_pos qb])
    by_cases qd : d < 0
    · refine m12 ⟨h, ?_, rfl⟩ (by rw [x2 h H, if_neg qe, if_neg qb, if_pos qd])
      rw [x1, if_pos (show d < 0 ∨ e < 0 ∨ σ.2 67 jb - e < d from Or.inl qd), if_pos z0, ite_self]
    obtain ⟨za, hza, eza⟩ := (X.2.2.2.2.1 ja hja).2
    obtain ⟨zb, hzb, ezb⟩ := (X.2.2.2.2.1 jb hjb).2
    obtain ⟨m, hm, rfl⟩ := nI_of qe
    obtain ⟨i, hi, rfl⟩ := nI_of qb
    obtain ⟨k, hk, rfl⟩ := nI_of qd
    rw [eza, ezb] at x1
    simp only [eza, ezb] at x2
    have sa : ∀ z i m : Nat, z < 41 → i < 2 ^ 31 → m < 2 ^ 31 → (nI z - nI m < nI i ↔ z < i + m) := by
      intro z i m h1 h2 h3
      rw [Int32.lt_iff_toInt_lt, nIs1 (by omega) (by omega), nI_toInt h2]
      omega
    by_cases c1 : za < i + m
    · have c1' : nI za - nI m < nI i := (sa za i m hza hi hm).mpr c1
      have c1r : nI za - nI i < nI m := (sa za m i hza hm hi).mpr (by omega)
      exact m12 ⟨h, by rw [x1, if_pos (Or.inr (Or.inr c1')), if_pos rfl], rfl⟩ (by rw [x2 h H, if_neg qe, if_neg qb, if_neg qd, if_pos c1r])
    have c1' : ¬ nI za - nI m < nI i := fun z => c1 ((sa za i m hza hi hm).mp z)
    have c1r : ¬ nI za - nI i < nI m := fun z => c1 (by have := (sa za m i hza hm hi).mp z; omega)
    have n1 : ¬ (nI i < 0 ∨ nI m < 0 ∨ nI za - nI m < nI i) := fun z => z.elim qb (fun z => z.elim qe c1')
    have z10 : ¬ (1 : Int32) = 0 := by decide
    by_cases c2 : zb < k + m
    · have c2' : nI zb - nI m < nI k := (sa zb k m hzb hk hm).mpr c2
      have c2r : ¬ nI m ≤ nI zb - nI k := Int32.not_le.mpr ((sa zb m k hzb hm hk).mpr (by omega))
      refine m12 ⟨h, ?_, rfl⟩ (by rw [x2 h H, if_neg qe, if_neg qb, if_neg qd, if_neg c1r, if_neg c2r])
      rw [x1, if_pos (show nI k < 0 ∨ nI m < 0 ∨ nI zb - nI m < nI k from Or.inr (Or.inr c2')), if_pos z0, ite_self]
    have c2' : ¬ nI zb - nI m < nI k := fun z => c2 ((sa zb k m hzb hk hm).mp z)
    have c2r : nI m ≤ nI zb - nI k := Int32.not_lt.mp (fun z => c2 (by have := (sa zb m k hzb hm hk).mp z; omega))
    have n2 : ¬ (nI k < 0 ∨ nI m < 0 ∨ nI zb - nI m < nI k) := fun z => z.elim qd (fun z => z.elim qe c2')
    have cp : xcpi h (38 + ja) (nI i) (38 + jb) (nI k) (nI m) = some (srow h (38 + jb) (va_cpy (ai h (38 + ja)) (ai h (38 + jb)) i k m)) := by
      unfold xcpi
      rw [nI_clamp hi, nI_clamp hk, nI_clamp hm, if_pos]
      unfold xcp
      rw [nI_clamp hi, nI_clamp hk, nI_clamp hm, (kd38 C hja).1, (kd38 C hja).2, (kd38 C hjb).1, (kd38 C hjb).2]
      have t1 : i + m ≤ 40 := by omega
      have t2 : k + m ≤ 40 := by omega
      simp only [qe, qb, qd, t1, t2, not_false_eq_true, decide_true, Bool.and_self]
    have H1 : RS (srow h (38 + jb) (va_cpy (ai h (38 + ja)) (ai h (38 + jb)) i k m)) σ := RSof H rfl rfl rfl rfl (fun k hk => by rw [ai_srow, if_neg (by omega)])
    have S1 : kd (srow h (38 + jb) (va_cpy (ai h (38 + ja)) (ai h (38 + jb)) i k m)) 9000 = 30 ∧ ln (srow h (38 + jb) (va_cpy (ai h (38 + ja)) (ai h (38 + jb)) i k m)) 9000 = L ∧ ai (srow h (38 + jb) (va_cpy (ai h (38 + ja)) (ai h (38 + jb)) i k m)) 9000 = xs := by
      rw [ai_srow, if_neg (by omega)]; exact S
    obtain ⟨h2, σ', e2, H2, F2, Y⟩ := r_cp1 (N := N) (ja := ja) (jb := jb) (i := i) (k := k) (m := m) H1 hja hjb (by omega) (by omega) (by omega)
    refine ⟨nI m, _, h2, σ', tr, u, ?_, ?_, S1, I.st (cpy_cs C W.1 hja hjb (by omega) (by omega) Y) F2 H2 (cpy_wv W Y) (cpy_wx (X.up (by omega)) Y) S1 (by omega)⟩
    · rw [x1, if_neg n1, if_neg z10, if_neg n2, if_neg z10, cp, obs]
    · rw [x2 _ H1, if_neg qe, if_neg qb, if_neg qd, if_neg c1r, if_pos c2r, e2]
  · exact ⟨-13, h, h, σ, tr, u, by simp (disch := omega) only [f_X11_copy, obs, b10, b01, bm, if_true_, if_false_, eq_self, not_true_eq_false, not_false_eq_true, true_or, or_true, or_false, false_or, and_true, true_and, and_false, false_and, or_self, and_self, Bool.false_eq_true, ite_self, n25, n20, n24, n100, kk1 C, c_isSheet C, oa, oc, kr1_12 C, ky22 C, c_isMissing C, q0, q1, kf23_0 C, qs], by simp (disch := omega) only [f_X12_copy, obs, b10, b01, bm, if_true_, if_false_, eq_self, not_true_eq_false, not_false_eq_true, true_or, or_true, or_false, false_or, and_true, true_and, and_false, false_and, or_self, and_self, Bool.false_eq_true, ite_self, n25, n20, n24, n100, RS.kk H, r_isSheet, oa, oc, rg66 H, ra66 H, q0, q1, qs], S, I.up (by omega)⟩
end
