/-! ===== public: basis, judge ===== -/
section
variable {L N : Nat} {xs : Nat → Int32} {h h' : AH} {σ σ' : SG} {tr : Nat → Nat} {u n : Nat}
theorem z0i : (0 : Int32).toInt = 0 := by decide
theorem nIs {a b : Nat} (ha : a < 2 ^ 30) (hb : b < 2 ^ 30) : (nI a - nI b).toInt = (a : Int) - b := by
  have h1 := nI_toInt (n := a) (by omega)
  have h2 := nI_toInt (n := b) (by omega)
  rw [i3_sub (by rw [h1, h2]; omega) (by rw [h1, h2]; omega), h1, h2]
theorem lt0_sub {a b : Nat} (ha : a < 2 ^ 30) (hb : b < 2 ^ 30) : (nI a - nI b < 0) = (a < b) := by
  apply propext
  rw [Int32.lt_iff_toInt_lt, nIs ha hb, z0i]
  omega
theorem le_sub0 {a b : Nat} (ha : a < 2 ^ 30) (hb : b < 2 ^ 30) : (0 ≤ nI a - nI b) = (b ≤ a) := by
  apply propext
  rw [Int32.le_iff_toInt_le, nIs ha hb, z0i]
  omega
theorem sub_le0 {a b : Nat} (ha : a < 2 ^ 30) (hb : b < 2 ^ 30) : (nI a - nI b ≤ 0) = (a ≤ b) := by
  apply propext
  rw [Int32.le_iff_toInt_le, nIs ha hb, z0i]
  omega
theorem neg_sub0 {a b : Nat} (ha : a < 2 ^ 30) (hb : b < 2 ^ 30) (h : a ≤ b) : 0 - (nI a - nI b) = nI (b - a) := by
  have h1 := nIs ha hb
  apply Int32.toInt_inj.mp
  rw [i3_sub (by rw [h1, z0i]; omega) (by rw [h1, z0i]; omega), h1, z0i, nI_toInt (by omega)]
  omega
def adN (a b : Nat) : Nat := if b ≤ a then a - b else b - a
theorem adN_lt {a b n : Nat} (ha : a < n) (hb : b < n) : adN a b < n := by
  unfold adN
  split <;> omega
theorem apt_nI {a b : Nat} (ha : a < 2 ^ 30) (hb : b < 2 ^ 30) : apt (nI a) (nI b) = nI (adN a b) := by
  unfold apt adN
  by_cases q : b ≤ a
  · rw [if_pos ((nI_leI (by omega) (by omega)).mpr q), if_pos q, nI_sub q]
  · rw [if_neg (fun c => q ((nI_leI (by omega) (by omega)).mp c)), if_neg q, nI_sub (by omega)]
theorem abs_nI {a b : Nat} (ha : a < 2 ^ 30) (hb : b < 2 ^ 30) : (if 0 ≤ (nI a - nI b) then (nI a - nI b) else 0 - (nI a - nI b)) = nI (adN a b) := by
  unfold adN
  by_cases q : b ≤ a
  · rw [if_pos (by rw [le_sub0 ha hb]; exact q), if_pos q, nI_sub q]
  · rw [if_neg (by rw [le_sub0 ha hb]; exact q), if_neg q, neg_sub0 ha hb (by omega)]
theorem mx_nI {a b : Nat} (ha : a < 2 ^ 30) (hb : b < 2 ^ 30) : (if nI a - nI b < 0 then 0 else nI a - nI b) = nI (a - b) := by
  by_cases q : a < b
  · rw [if_pos (by rw [lt0_sub ha hb]; exact q), show a - b = 0 by omega]; rfl
  · rw [if_neg (by rw [lt0_sub ha hb]; exact q), nI_sub (by omega)]
def lkF (σ : SG) (i : Nat) : Nat := (σ.2 42 i).toNatClampNeg
def lkS (σ : SG) (i : Nat) : Nat := (σ.2 43 i).toNatClampNeg
def lkA (σ : SG) (i : Nat) : Nat := (σ.2 44 i).toNatClampNeg
def lkD (σ : SG) (i : Nat) : Nat := (σ.2 45 i).toNatClampNeg
theorem lk_ok (W : WV σ) {i : Nat} (hi : i < cn σ 41) : (σ.2 42 i = nI (lkF σ i) ∧ lkF σ i < cn σ 26) ∧ (σ.2 43 i = nI (lkS σ i) ∧ lkS σ i < 16) ∧ (σ.2 44 i = nI (lkA σ i) ∧ lkA σ i < 10000) ∧ (σ.2 45 i = nI (lkD σ i) ∧ lkD σ i < 10000) := by
  have hF := W.1.f
  exact ⟨bd_cl (wv42 W hi) (by omega), bd_cl (wv43 W hi) (by decide), bd_cl (wv44 W hi) (by decide), bd_cl (wv45 W hi) (by decide)⟩
theorem farD_bd (W : WV σ) {f g : Nat} (hf : f < cn σ 26) (hg : g < cn σ 0) : bd (farD σ f g) 199 := bd_dst (wv27 W hf) (wv28 W hf) (wv1 W hg) (wv2 W hg)
def fpN (σ : SG) (f s t : Nat) : Nat := (farmPayO σ (R0 σ) (G0 σ) f s t).toNatClampNeg
theorem fp_ok (W : WV σ) {f s t : Nat} (hf : f < cn σ 26) (ht : t < cn σ 13) : farmPayO σ (R0 σ) (G0 σ) f s t = nI (fpN σ f s t) ∧ fpN σ f s t < 10000 := by
  refine bd_cl ?_ (by decide)
  unfold farmPayO
  rcases gaugeOf σ f (nI s) with _ | g
  · exact ⟨0, by omega, lt0⟩
  · have := payN_ok W (g := g) (k := cropO σ f) (s := s) ht (plantO_lt W hf).1
    exact ⟨_, this.1, this.2⟩
theorem r_fp (H : RS h σ) (W : WV σ) {f s t : Nat} (hf : f < cn σ 26) (hs : s < 16) (ht : t < cn σ 13) (hN : 100 < N) : f_X12_farmPay h N 100 0 (nI f) (nI s) (nI t) = some (nI (fpN σ f s t)) := by
  rw [← (fp_ok W hf ht).1]
  exact r_farmPay H W (TB0 W) hf hs ht hN
theorem c_fp (C : CS h σ tr u) (W : WV σ) {f s t : Nat} (hf : f < cn σ 26) (hs : s < 16) (ht : t < cn σ 13) (hN : 1000 < N) : ∃ h', f_X11_payOf h N 1 (300 + f) (nI s) (nI t) (nI (cn σ 7)) = some (nI (fpN σ f s t), h') ∧ SCR h h' ∧ ai h' 28 = ai h 28 ∧ ai h' 29 = ai h 29 := by
  have hTl := W.1.tl
  rw [← (fp_ok W hf ht).1]
  exact c_payOf C W hf hs ht (by omega) hN
def bandO (σ : SG) (i : Nat) : Int32 := match gaugeOf σ (lkF σ i) (nI (lkS σ i)) with
  | none => -1
  | some g => if 3 < farD σ (lkF σ i) g / 20 then 3 else farD σ (lkF σ i) g / 20
def misN (σ : SG) (t i : Nat) : Nat := adN (fpN σ (lkF σ i) (lkS σ i) t) (lkA σ i) - lkD σ i
theorem misN_lt (W : WV σ) {t i : Nat} (hi : i < cn σ 41) (ht : t < cn σ 13) : misN σ t i < 10000 := by
  obtain ⟨⟨-, hf⟩, -, ⟨-, hA⟩, -⟩ := lk_ok W hi
  have := adN_lt (fp_ok W (s := lkS σ i) hf ht).2 hA
  unfold misN
  omega
theorem c_bandOf (C : CS h σ tr u) (W : WV σ) {i : Nat} (hi : i < cn σ 41) (hN : 100 < N) : f_X11_bandOf h N 1 (nI i) = some (bandO σ i) := by
  have hL := W.1.l
  have hG := W.1.g
  obtain ⟨⟨eF, hf⟩, ⟨eS, hs⟩, -⟩ := lk_ok W hi
  unfold f_X11_bandOf bandO
  rw [if_pos (kk1 C), kr1_2 C, obs, kr1_9 C, obs, ka19_0 C (by omega), obs, eF, kg12 C W.1 hf, obs, kc300 C hf, obs, obs, ka19_1 C (by omega), obs, eS, c_distG C W hf hN, obs]
  unfold farO
  rcases e : gaugeOf σ (lkF σ i) (nI (lkS σ i)) with _ | g
  · rw [if_pos rfl]
  · have hb := bd_ne (farD_bd W hf (gaugeOf_lt e)) (by decide)
    simp only [if_neg hb, n20]
theorem c_missOf (C : CS h σ tr u) (W : WV σ) {t i : Nat} (hi : i < cn σ 41) (ht : t < cn σ 13) (hN : 1000 < N) : ∃ h', f_X11_missOf h N 1 (nI i) (nI t) = some (nI (misN σ t i), h') ∧ SCR h h' := by
  have hL := W.1.l
  obtain ⟨⟨eF, hf⟩, ⟨eS, hs⟩, ⟨eA, hA⟩, ⟨eD, hD⟩⟩ := lk_ok W hi
  obtain ⟨h1, e1, S1, -⟩ := c_fp (N := N) C W hf hs ht hN
  have C1 := C.scr S1
  have hp := (fp_ok W (s := lkS σ i) hf ht).2
  have ha := adN_lt hp hA
  refine ⟨h1, ?_, S1⟩
  unfold f_X11_missOf misN
  rw [if_pos (kk1 C), kr1_2 C, obs, kr1_9 C, obs, ka19_0 C (by omega), obs, eF, kg12 C W.1 hf, obs, kc300 C hf, obs, obs, ka19_1 C (by omega), obs, eS, c_now C W.1, obs, e1, obs]
  simp only []
  rw [kr1_9 C1, obs, ka19_2 C1 (by omega), obs, obs, ka19_3 C1 (by omega), obs, eA, eD, abs_nI (by omega) (by omega), mx_nI (by omega) (by omega)]
def basS (σ : SG) (t b i : Nat) (x : Nat × Nat) : Nat × Nat := if bandO σ i = nI b then (x.1 + misN σ t i, x.2 + 1) else x
theorem r_basis (H : RS h σ) (W : WV σ) {t b w : Nat} (ht : t < cn σ 13) (hb : b < 4) (hN : 100 < N) : f_X12_basis_b39 h N N 100 (nI t) (nI b) (nI w) 0 0 0 = (if (itr (basS σ t b) 0 (cn σ 41) (0, 0)).2 = 0 then some (-9223372036854775808) else (f_X12_part h N (lN (itr (basS σ t b) 0 (cn σ 41) (0, 0)).1) (lN (itr (basS σ t b) 0 (cn σ 41) (0, 0)).2) (nI w)).bind fun v => some v) := by
  have hL := W.1.l
  have hG := W.1.g
  have hF := W.1.f
  refine (lpA (fun n i (x : Nat × Nat) => f_X12_basis_b39 h N n 100 (nI t) (nI b) (nI w) (lN x.1) (nI x.2) (nI i)) (basS σ t b) (cn σ 41) (fun x => if x.2 = 0 then some (-9223372036854775808) else (f_X12_part h N (lN x.1) (lN x.2) (nI w)).bind fun v => some v) (fun i x => x.2 ≤ i) ?_ ?_ (cn σ 41) N 0 (0, 0) (by omega) (by omega) (by simp)).1
  · intro n x hx
    by_cases q : x.2 = 0
    · simp (disch := omega) only [f_X12_basis_b39, f_X12_basis_b39_body, obs, b10, b01, bm, if_true_, if_false_, eq_self, not_true_eq_false, not_false_eq_true, true_or, or_true, or_false, false_or, and_true, true_and, and_false, false_and, or_self, and_self, Bool.false_eq_true, ite_self, n25, n20, n24, n100, RS.gi H, hL.1, nI_leI, Nat.le_refl, q, nI_0]
    · have q2 : ¬ nI x.2 = 0 := nI_ne0 (by omega) (by omega)
      simp (disch := omega) only [f_X12_basis_b39, f_X12_basis_b39_body, obs, b10, b01, bm, if_true_, if_false_, eq_self, not_true_eq_false, not_false_eq_true, true_or, or_true, or_false, false_or, and_true, true_and, and_false, false_and, or_self, and_self, Bool.false_eq_true, ite_self, n25, n20, n24, n100, RS.gi H, hL.1, nI_leI, Nat.le_refl, q, q2, nI_l]
  · intro n i x hi hx
    have hn : ¬ cn σ 41 ≤ i := by omega
    obtain ⟨⟨eF, hf⟩, ⟨eS, hs⟩, ⟨eA, hA⟩, ⟨eD, hD⟩⟩ := lk_ok W hi
    refine ⟨?_, by unfold basS; split <;> first | omega | (simp only; omega)⟩
    rcases e : gaugeOf σ (lkF σ i) (nI (lkS σ i)) with _ | g
    · have hbd : bandO σ i = -1 := by unfold bandO; rw [e]
      have hbn : ¬ ((-1 : Int32) = nI b) := fun z => nI_neg (n := b) (by omega) z.symm
      simp (disch := omega) only [f_X12_basis_b39, f_X12_basis_b39_body, f_X12_basis_b105, f_X12_basis_b184, obs, b10, b01, bm, if_true_, if_false_, eq_self, not_true_eq_false, not_false_eq_true, true_or, or_true, or_false, false_or, and_true, true_and, and_false, false_and, or_self, and_self, Bool.false_eq_true, ite_self, n25, n20, n24, n100, RS.gi H, hL.1, nI_leI, hn, rg42 H, ra42 H, rg43 H, ra43 H, eF, eS, r_gaugeOf H W.1, e, oI_n, basS, hbd, hbn, nI_1]
    · have hg := gaugeOf_lt e
      have hbd : bandO σ i = if 3 < farD σ (lkF σ i) g / 20 then 3 else farD σ (lkF σ i) g / 20 := by unfold bandO; rw [e]
      have hp := (fp_ok W (s := lkS σ i) hf ht).2
      have ha := adN_lt hp hA
      have fd : dst (σ.2 27 (lkF σ i)) (σ.2 28 (lkF σ i)) (σ.2 1 g) (σ.2 2 g) = farD σ (lkF σ i) g := rfl
      have hms : ∀ (K : Nat → Int32 → Int32 → Int32 → Int64 → Int32 → Int32 → Option Int64) (B : Int32), f_X12_basis_b125 h N K 100 (nI t) (nI b) (nI w) (lN x.1) (nI x.2) (nI i) (nI (lkF σ i)) B = if B = nI b then K 100 (nI t) (nI b) (nI w) (lN (x.1 + misN σ t i)) (nI (x.2 + 1)) (nI (i + 1)) else K 100 (nI t) (nI b) (nI w) (lN x.1) (nI x.2) (nI (i + 1)) := by
        intro K B
        by_cases q : B = nI b
        · by_cases q2 : adN (fpN σ (lkF σ i) (lkS σ i) t) (lkA σ i) ≤ lkD σ i
          · have hz : misN σ t i = 0 := by unfold misN; omega
            have l0 : (0 : Int64) = lN 0 := by decide
            simp (disch := omega) only [f_X12_basis_b125, f_X12_basis_b178, f_X12_basis_b184, obs, b10, b01, bm, if_true_, if_false_, eq_self, not_true_eq_false, not_false_eq_true, true_or, or_true, or_false, false_or, and_true, true_and, and_false, false_and, or_self, and_self, Bool.false_eq_true, ite_self, n25, n20, n24, n100, rg43 H, ra43 H, rg44 H, ra44 H, rg45 H, ra45 H, eS, eA, eD, r_fp H W, r_apart, apt_nI, sub_le0, q, q2, hz, l0, lN_add, nI_1, Nat.add_zero]
          · have hz : (nI (adN (fpN σ (lkF σ i) (lkS σ i) t) (lkA σ i)) - nI (lkD σ i)).toInt64 = lN (misN σ t i) := by
              rw [nI_sub (by omega), nI_l (by omega)]; rfl
            simp (disch := omega) only [f_X12_basis_b125, f_X12_basis_b178, f_X12_basis_b184, obs, b10, b01, bm, if_true_, if_false_, eq_self, not_true_eq_false, not_false_eq_true, true_or, or_true, or_false, false_or, and_true, true_and, and_false, false_and, or_self, and_self, Bool.false_eq_true, ite_self, n25, n20, n24, n100, rg43 H, ra43 H, rg44 H, ra44 H, rg45 H, ra45 H, eS, eA, eD, r_fp H W, r_apart, apt_nI, sub_le0, q, q2, hz, lN_add, nI_1]
        · simp only [f_X12_basis_b125, f_X12_basis_b184, obs, b10, b01, bm, if_true_, if_false_, eq_self, not_true_eq_false, not_false_eq_true, true_or, or_true, or_false, false_or, and_true, true_and, and_false, false_and, or_self, and_self, Bool.false_eq_true, ite_self, n25, n20, n24, n100, q, nI_1]
      have key : f_X12_basis_b39 h N (n + 1) 100 (nI t) (nI b) (nI w) (lN x.1) (nI x.2) (nI i) = f_X12_basis_b125 h N (f_X12_basis_b39 h N n) 100 (nI t) (nI b) (nI w) (lN x.1) (nI x.2) (nI i) (nI (lkF σ i)) (bandO σ i) := by
        rw [hbd]
        by_cases q3 : farD σ (lkF σ i) g / 20 ≤ 3
        · have q4 : ¬ 3 < farD σ (lkF σ i) g / 20 := Int32.not_lt.mpr q3
          simp (disch := omega) only [f_X12_basis_b39, f_X12_basis_b39_body, f_X12_basis_b105, obs, b10, b01, bm, if_true_, if_false_, eq_self, not_true_eq_false, not_false_eq_true, true_or, or_true, or_false, false_or, and_true, true_and, and_false, false_and, or_self, and_self, Bool.false_eq_true, ite_self, n25, n20, n24, n100, RS.gi H, hL.1, nI_leI, hn, rg42 H, ra42 H, rg43 H, ra43 H, eF, eS, r_gaugeOf H W.1, e, oI_s, nI_negF, rg1 H, ra1 H, rg2 H, ra2 H, r_farFrom H, fd, q3, q4]
        · have q4 : 3 < farD σ (lkF σ i) g / 20 := Int32.not_le.mp q3
          simp (disch := omega) only [f_X12_basis_b39, f_X12_basis_b39_body, f_X12_basis_b105, obs, b10, b01, bm, if_true_, if_false_, eq_self, not_true_eq_false, not_false_eq_true, true_or, or_true, or_false, false_or, and_true, true_and, and_false, false_and, or_self, and_self, Bool.false_eq_true, ite_self, n25, n20, n24, n100, RS.gi H, hL.1, nI_leI, hn, rg42 H, ra42 H, rg43 H, ra43 H, eF, eS, r_gaugeOf H W.1, e, oI_s, nI_negF, rg1 H, ra1 H, rg2 H, ra2 H, r_farFrom H, fd, q3, q4]
      show f_X12_basis_b39 h N (n + 1) 100 (nI t) (nI b) (nI w) (lN x.1) (nI x.2) (nI i) = _
      rw [key, hms]
      unfold basS
      by_cases q : bandO σ i = nI b
      · rw [if_pos q, if_pos q]
      · rw [if_neg q, if_neg q]
theorem pub_basis {a b c : Int32} (I : INV L xs h σ tr u n) (hN : 2000 < N) : ∃ v h1, f_X11_basis h N 1 a b c = some (v, h1) ∧ f_X12_basis h1 N 100 a b c = some v ∧ INV L xs h1 σ tr u n := by
  obtain ⟨C, H, W, X, S, U⟩ := id I
  have hG := W.1.g
  have hT := W.1.t
  have hF := W.1.f
  have hL := W.1.l
  rcases okC a (n := cn σ 13) (by omega) with oa | ⟨oa, t, ht, rfl⟩
  · exact ⟨-9223372036854775808, h, by simp only [f_X11_basis, obs, b10, b01, bm, if_true_, if_false_, eq_self, not_true_eq_false, not_false_eq_true, true_or, or_true, or_false, false_or, and_true, true_and, and_false, false_and, or_self, and_self, Bool.false_eq_true, ite_self, n25, n20, n24, n100, kk1 C, RS.kk H, c_isGauge C W.1, c_isTerm C W.1, c_isFarm C W.1, c_isSeason, c_isPlace, r_isGauge H W.1, r_isTerm H W.1, r_isFarm H W.1, r_isSeason, r_isWeek, r_isPlace, r_isSheet, ci1, ri1, ci2, ri2, ci3, ri3, ci4, ri4, ci5, ri5, ci11, ri11, ci16, ri16, ci98, ri98, ci99, ri99, ci198, ri198, ci9999, ri9999, oa], by simp only [f_X12_basis, obs, b10, b01, bm, if_true_, if_false_, eq_self, not_true_eq_false, not_false_eq_true, true_or, or_true, or_false, false_or, and_true, true_and, and_false, false_and, or_self, and_self, Bool.false_eq_true, ite_self, n25, n20, n24, n100, kk1 C, RS.kk H, c_isGauge C W.1, c_isTerm C W.1, c_isFarm C W.1, c_isSeason, c_isPlace, r_isGauge H W.1, r_isTerm H W.1, r_isFarm H W.1, r_isSeason, r_isWeek, r_isPlace, r_isSheet, ci1, ri1, ci2, ri2, ci3, ri3, ci4, ri4, ci5, ri5, ci11, ri11, ci16, ri16, ci98, ri98, ci99, ri99, ci198, ri198, ci9999, ri9999, oa], I⟩
  rcases okC b (n := 4) (by decide) with ob | ⟨ob, b, hb, rfl⟩
  · exact ⟨-9223372036854775808, h, by simp only [f_X11_basis, obs, b10, b01, bm, if_true_, if_false_, eq_self, not_true_eq_false, not_false_eq_true, true_or, or_true, or_false, false_or, and_true, true_and, and_false, false_and, or_self, and_self, Bool.false_eq_true, ite_self, n25, n20, n24, n100, kk1 C, RS.kk H, c_isGauge C W.1, c_isTerm C W.1, c_isFarm C W.1, c_isSeason, c_isPlace, r_isGauge H W.1, r_isTerm H W.1, r_isFarm H W.1, r_isSeason, r_isWeek, r_isPlace, r_isSheet, ci1, ri1, ci2, ri2, ci3, ri3, ci4, ri4, ci5, ri5, ci11, ri11, ci16, ri16, ci98, ri98, ci99, ri99, ci198, ri198, ci9999, ri9999, oa, ob], by simp only [f_X12_basis, obs, b10, b01, bm, if_true_, if_false_, eq_self, not_true_eq_false, not_false_eq_true, true_or, or_true, or_false, false_or, and_true, true_and, and_false, false_and, or_self, and_self, Bool.false_eq_true, ite_self, n25, n20, n24, n100, kk1 C, RS.kk H, c_isGauge C W.1, c_isTerm C W.1, c_isFarm C W.1, c_isSeason, c_isPlace, r_isGauge H W.1, r_isTerm H W.1, r_isFarm H W.1, r_isSeason, r_isWeek, r_isPlace, r_isSheet, ci1, ri1, ci2, ri2, ci3, ri3, ci4, ri4, ci5, ri5, ci11, ri11, ci16, ri16, ci98, ri98, ci99, ri99, ci198, ri198, ci9999, ri9999, oa, ob], I⟩
  rcases okC c (n := 2) (by decide) with oc | ⟨oc, w, hw, rfl⟩
  · exact ⟨-9223372036854775808, h, by simp only [f_X11_basis, obs, b10, b01, bm, if_true_, if_false_, eq_self, not_true_eq_false, not_false_eq_true, true_or, or_true, or_false, false_or, and_true, true_and, and_false, false_and, or_self, and_self, Bool.false_eq_true, ite_self, n25, n20, n24, n100, kk1 C, RS.kk H, c_isGauge C W.1, c_isTerm C W.1, c_isFarm C W.1, c_isSeason, c_isPlace, r_isGauge H W.1, r_isTerm H W.1, r_isFarm H W.1, r_isSeason, r_isWeek, r_isPlace, r_isSheet, ci1, ri1, ci2, ri2, ci3, ri3, ci4, ri4, ci5, ri5, ci11, ri11, ci16, ri16, ci98, ri98, ci99, ri99, ci198, ri198, ci9999, ri9999, oa, ob, oc], by simp only [f_X12_basis, obs, b10, b01, bm, if_true_, if_false_, eq_self, not_true_eq_false, not_false_eq_true, true_or, or_true, or_false, false_or, and_true, true_and, and_false, false_and, or_self, and_self, Bool.false_eq_true, ite_self, n25, n20, n24, n100, kk1 C, RS.kk H, c_isGauge C W.1, c_isTerm C W.1, c_isFarm C W.1, c_isSeason, c_isPlace, r_isGauge H W.1, r_isTerm H W.1, r_isFarm H W.1, r_isSeason, r_isWeek, r_isPlace, r_isSheet, ci1, ri1, ci2, ri2, ci3, ri3, ci4, ri4, ci5, ri5, ci11, ri11, ci16, ri16, ci98, ri98, ci99, ri99, ci198, ri198, ci9999, ri9999, oa, ob, oc], I⟩
  obtain ⟨h1, e1, S1, b1, b2⟩ : ∃ h1, f_X11_basis_b39 N N h 1 (nI t) (nI b) (nI w) 0 0 0 = (if (itr (basS σ t b) 0 (cn σ 41) (0, 0)).2 = 0 then some (-9223372036854775808, h1) else (f_X11_partOf h1 N (lN (itr (basS σ t b) 0 (cn σ 41) (0, 0)).1) (lN (itr (basS σ t b) 0 (cn σ 41) (0, 0)).2) (nI w)).bind fun v => some (v, h1)) ∧ SCR h h1 ∧ (itr (basS σ t b) 0 (cn σ 41) (0, 0)).1 ≤ 10000 * cn σ 41 ∧ (itr (basS σ t b) 0 (cn σ 41) (0, 0)).2 ≤ cn σ 41 := by
    refine (lpS (σ := AH) (α := Nat × Nat) (fun n i h x => f_X11_basis_b39 N n h 1 (nI t) (nI b) (nI w) (lN x.1) (nI x.2) (nI i)) (basS σ t b) (cn σ 41) (fun h1 x => if x.2 = 0 then some (-9223372036854775808, h1) else (f_X11_partOf h1 N (lN x.1) (lN x.2) (nI w)).bind fun v => some (v, h1)) (fun i h' x => SCR h h' ∧ x.1 ≤ 10000 * i ∧ x.2 ≤ i) ?_ ?_ (cn σ 41) N 0 h (0, 0) (by omega) (by omega) ⟨SCR.refl, by simp, by simp⟩).elim (fun h' e => ⟨h', e.1, e.2⟩)
    · intro n h' x ⟨S, x1, x2⟩
      have C' := C.scr S
      by_cases q : x.2 = 0
      · simp (disch := omega) only [f_X11_basis_b39, f_X11_basis_b39_body, obs, b10, b01, bm, if_true_, if_false_, eq_self, not_true_eq_false, not_false_eq_true, true_or, or_true, or_false, false_or, and_true, true_and, and_false, false_and, or_self, and_self, Bool.false_eq_true, ite_self, n25, n20, n24, n100, kr1_9 C', ki19_3 C', hL.1, nI_leI, Nat.le_refl, q, nI_0]
      · have q2 : ¬ nI x.2 = 0 := nI_ne0 (by omega) (by omega)
        simp (disch := omega) only [f_X11_basis_b39, f_X11_basis_b39_body, obs, b10, b01, bm, if_true_, if_false_, eq_self, not_true_eq_false, not_false_eq_true, true_or, or_true, or_false, false_or, and_true, true_and, and_false, false_and, or_self, and_self, Bool.false_eq_true, ite_self, n25, n20, n24, n100, kr1_9 C', ki19_3 C', hL.1, nI_leI, Nat.le_refl, q, q2, nI_l]
    · intro n i h' x hi ⟨S, x1, x2⟩
      have C' := C.scr S
      have hn : ¬ cn σ 41 ≤ i := by omega
      by_cases q : bandO σ i = nI b
      · obtain ⟨h2, e2, S2⟩ := c_missOf (N := N) C' W hi ht (by omega)
        have hm := misN_lt W hi ht
        refine ⟨h2, ?_, S.trans S2, ?_, ?_⟩
        · simp (disch := omega) only [f_X11_basis_b39, f_X11_basis_b39_body, f_X11_basis_b80, obs, b10, b01, bm, if_true_, if_false_, eq_self, not_true_eq_false, not_false_eq_true, true_or, or_true, or_false, false_or, and_true, true_and, and_false, false_and, or_self, and_self, Bool.false_eq_true, ite_self, n25, n20, n24, n100, kr1_9 C', ki19_3 C', hL.1, nI_leI, hn, c_bandOf C' W, q, e2, nI_l, lN_add, basS, nI_1]
        · unfold basS; rw [if_pos q]; simp only; omega
        · unfold basS; rw [if_pos q]; simp only; omega
      · refine ⟨h', ?_, S, ?_, ?_⟩
        · simp (disch := omega) only [f_X11_basis_b39, f_X11_basis_b39_body, f_X11_basis_b80, obs, b10, b01, bm, if_true_, if_false_, eq_self, not_true_eq_false, not_false_eq_true, true_or, or_true, or_false, false_or, and_true, true_and, and_false, false_and, or_self, and_self, Bool.false_eq_true, ite_self, n25, n20, n24, n100, kr1_9 C', ki19_3 C', hL.1, nI_leI, hn, c_bandOf C' W, q, basS, nI_1]
        · unfold basS; rw [if_neg q]; omega
        · unfold basS; rw [if_neg q]; omega
  have I' := I.scr S1
  have H' := I'.2.1
  have r1 := r_basis (N := N) H' W (w := w) ht hb (by omega)
  generalize itr (basS σ t b) 0 (cn σ 41) (0, 0) = x at e1 b1 b2 r1
  by_cases q : x.2 = 0
  · rw [if_pos q] at e1 r1
    refine ⟨-9223372036854775808, h1, ?_, ?_, I'⟩
    · simp only [f_X11_basis, obs, b10, b01, bm, if_true_, if_false_, eq_self, not_true_eq_false, not_false_eq_true, true_or, or_true, or_false, false_or, and_true, true_and, and_false, false_and, or_self, and_self, Bool.false_eq_true, ite_self, n25, n20, n24, n100, kk1 C, RS.kk H, c_isGauge C W.1, c_isTerm C W.1, c_isFarm C W.1, c_isSeason, c_isPlace, r_isGauge H W.1, r_isTerm H W.1, r_isFarm H W.1, r_isSeason, r_isWeek, r_isPlace, r_isSheet, ci1, ri1, ci2, ri2, ci3, ri3, ci4, ri4, ci5, ri5, ci11, ri11, ci16, ri16, ci98, ri98, ci99, ri99, ci198, ri198, ci9999, ri9999, oa, ob, oc, e1]
    · simp only [f_X12_basis, obs, b10, b01, bm, if_true_, if_false_, eq_self, not_true_eq_false, not_false_eq_true, true_or, or_true, or_false, false_or, and_true, true_and, and_false, false_and, or_self, and_self, Bool.false_eq_true, ite_self, n25, n20, n24, n100, RS.kk H', ri1, ri3, r_isTerm H' W.1, oa, ob, oc, r1]
  · rw [if_neg q] at e1 r1
    obtain ⟨v, v1, v2⟩ := part_eq (N := N) (h := h1) (h' := h1) (p2 := nI w) (absN (A := x.1) (by omega)) (by omega) (show 0 < x.2 by omega) (by omega) (by omega)
    rw [v1, obs] at e1
    rw [v2, obs] at r1
    refine ⟨v, h1, ?_, ?_, I'⟩
    · simp only [f_X11_basis, obs, b10, b01, bm, if_true_, if_false_, eq_self, not_true_eq_false, not_false_eq_true, true_or, or_true, or_false, false_or, and_true, true_and, and_false, false_and, or_self, and_self, Bool.false_eq_true, ite_self, n25, n20, n24, n100, kk1 C, RS.kk H, c_isGauge C W.1, c_isTerm C W.1, c_isFarm C W.1, c_isSeason, c_isPlace, r_isGauge H W.1, r_isTerm H W.1, r_isFarm H W.1, r_isSeason, r_isWeek, r_isPlace, r_isSheet, ci1, ri1, ci2, ri2, ci3, ri3, ci4, ri4, ci5, ri5, ci11, ri11, ci16, ri16, ci98, ri98, ci99, ri99, ci198, ri198, ci9999, ri9999, oa, ob, oc, e1]
    · simp only [f_X12_basis, obs, b10, b01, bm, if_true_, if_false_, eq_self, not_true_eq_false, not_false_eq_true, true_or, or_true, or_false, false_or, and_true, true_and, and_false, false_and, or_self, and_self, Bool.false_eq_true, ite_self, n25, n20, n24, n100, RS.kk H', ri1, ri3, r_isTerm H' W.1, oa, ob, oc, r1]
def plF (σ : SG) (c : Nat) : Nat := (σ.2 56 c).toNatClampNeg
def plS (σ : SG) (c : Nat) : Nat := (σ.2 57 c).toNatClampNeg
def plT (σ : SG) (c : Nat) : Nat := (σ.2 58 c).toNatClampNeg
theorem pl_ok (W : WV σ) {c : Nat} (hc : c < cn σ 55) : (σ.2 56 c = nI (plF σ c) ∧ plF σ c < cn σ 26) ∧ (σ.2 57 c = nI (plS σ c) ∧ plS σ c < 16) ∧ (σ.2 58 c = nI (plT σ c) ∧ plT σ c < cn σ 13) := by
  have hF := W.1.f
  have hT := W.1.t
  exact ⟨bd_cl (wv56 W hc) (by omega), bd_cl (wv57 W hc) (by decide), bd_cl (wv58 W hc) (by omega)⟩
def hurO (σ : SG) (c l : Nat) : Int32 := nI (lkA σ l) - nI (lkD σ l) - nI (fpN σ (lkF σ l) (lkS σ l) (plT σ c))
theorem hur_bd (W : WV σ) {c l : Nat} (hc : c < cn σ 55) (hl : l < cn σ 41) (q : ¬ hurO σ c l ≤ 0) : bd (hurO σ c l) 10000 := by
  obtain ⟨⟨eF, hf⟩, ⟨eS, hs⟩, ⟨eA, hA⟩, ⟨eD, hD⟩⟩ := lk_ok W hl
  have ht := (pl_ok W hc).2.2.2
  have hp := (fp_ok W (s := lkS σ l) hf ht).2
  have h1 := nIs (a := lkA σ l) (b := lkD σ l) (by omega) (by omega)
  have h2 := nI_toInt (n := fpN σ (lkF σ l) (lkS σ l) (plT σ c)) (by omega)
  have h3 : (hurO σ c l).toInt = (lkA σ l : Int) - lkD σ l - fpN σ (lkF σ l) (lkS σ l) (plT σ c) := by
    unfold hurO
    rw [i3_sub (by rw [h1, h2]; omega) (by rw [h1, h2]; omega), h1, h2]
  apply bd_of_int
  rw [Int32.le_iff_toInt_le, h3, z0i] at q
  rw [h3]
  omega
def judS (σ : SG) (c l : Nat) (y : Int32 × Int32) : Int32 × Int32 := if kinO σ c l then (if hurO σ c l ≤ 0 then (y.1 + -1, y.2) else (y.1 + 1, if y.2 = 0 then hurO σ c l else if y.2 ≤ hurO σ c l then y.2 else hurO σ c l)) else y
theorem kin_s {c l : Nat} (q : kinO σ c l = true) : σ.2 43 l = σ.2 57 c := by
  unfold kinO at q
  rw [Bool.and_eq_true] at q
  exact of_decide_eq_true q.1
theorem jud_bd (W : WV σ) {c : Nat} (hc : c < cn σ 55) : bd (itr (judS σ c) 0 (cn σ 41) (0, 0)).2 10000 := by
  have := itr_inv (st := judS σ c) (fun _ (y : Int32 × Int32) => bd y.2 10000) (m := cn σ 41) (i := 0) (a := (0, 0)) ⟨0, by omega, lt0⟩ (fun l y _ hl hy => by
    unfold judS
    by_cases q : kinO σ c l = true
    · rw [if_pos q]
      by_cases q2 : hurO σ c l ≤ 0
      · rw [if_pos q2]; exact hy
      · rw [if_neg q2]
        have hb := hur_bd W hc (by omega) q2
        simp only
        split
        · exact hb
        · split
          · exact hy
          · exact hb
    · rw [if_neg q]; exact hy)
  exact this
theorem c_hurtOf (C : CS h σ tr u) (W : WV σ) {c l : Nat} (hc : c < cn σ 55) (hl : l < cn σ 41) (hN : 1000 < N) : ∃ h', f_X11_hurtOf h N 1 (nI c) (nI l) = some (hurO σ c l, h') ∧ SCR h h' := by
  have hL := W.1.l
  have hQ := W.1.q
  obtain ⟨⟨eF, hf⟩, ⟨eS, hs⟩, ⟨eA, hA⟩, ⟨eD, hD⟩⟩ := lk_ok W hl
  obtain ⟨-, -, eT, ht⟩ := pl_ok W hc
  obtain ⟨h1, e1, S1, -⟩ := c_fp (N := N) C W hf hs ht hN
  have C1 := C.scr S1
  refine ⟨h1, ?_, S1⟩
  unfold f_X11_hurtOf hurO
  rw [if_pos (kk1 C), kr1_2 C, obs, kr1_9 C, obs, ka19_0 C (by omega), obs, eF, kg12 C W.1 hf, obs, kc300 C hf, obs, obs, ka19_1 C (by omega), obs, eS, kr1_11 C, obs, ka21_2 C (by omega), obs, eT, c_now C W.1, obs, e1, obs]
  simp only []
  rw [kr1_9 C1, obs, ka19_2 C1 (by omega), obs, obs, ka19_3 C1 (by omega), obs, eA, eD]
theorem r_hurt (H : RS h σ) (W : WV σ) {c l : Nat} (hc : c < cn σ 55) (hl : l < cn σ 41) (q : kinO σ c l = true) (hN : 100 < N) : f_X12_hurt h N 100 (nI c) (nI l) = some (hurO σ c l) := by
  have hL := W.1.l
  have hQ := W.1.q
  obtain ⟨⟨eF, hf⟩, ⟨eS, hs⟩, ⟨eA, hA⟩, ⟨eD, hD⟩⟩ := lk_ok W hl
  obtain ⟨-, -, eT, ht⟩ := pl_ok W hc
  have ek := kin_s q
  unfold f_X12_hurt hurO
  rw [if_pos H.1, rg44 H, obs, ra44 H (by omega), obs, rg45 H, obs, ra45 H (by omega), obs, rg42 H, obs, ra42 H (by omega), obs, rg57 H, obs, ra57 H (by omega), obs, rg58 H, obs, ra58 H (by omega), obs, ← ek, eF, eS, eT, eA, eD, r_fp H W hf hs ht hN, obs]
theorem c_judL (C : CS h σ tr u) (W : WV σ) {c : Nat} (hc : c < cn σ 55) (hN : 1000 < N) : ∃ h', f_X11_judge_b35 N N h 1 (nI c) 0 0 0 = f_X11_judge_b35 N 1 h' 1 (nI c) (itr (judS σ c) 0 (cn σ 41) (0, 0)).1 (itr (judS σ c) 0 (cn σ 41) (0, 0)).2 (nI (cn σ 41)) ∧ SCR h h' := by
  have hL := W.1.l
  refine (lpS (σ := AH) (α := Int32 × Int32) (fun n i h y => f_X11_judge_b35 N n h 1 (nI c) y.1 y.2 (nI i)) (judS σ c) (cn σ 41) (fun h' y => f_X11_judge_b35 N 1 h' 1 (nI c) y.1 y.2 (nI (cn σ 41))) (fun i h' _ => SCR h h') ?_ ?_ (cn σ 41) N 0 h (0, 0) (by omega) (by omega) SCR.refl).elim (fun h' e => ⟨h', e.1, e.2⟩)
  · intro n h' y S
    have C' := C.scr S
    simp (disch := omega) only [f_X11_judge_b35, f_X11_judge_b35_body, obs, b10, b01, bm, if_true_, if_false_, eq_self, not_true_eq_false, not_false_eq_true, true_or, or_true, or_false, false_or, and_true, true_and, and_false, false_and, or_self, and_self, Bool.false_eq_true, ite_self, n25, n20, n24, n100, kr1_9 C', ki19_3 C', hL.1, nI_leI, Nat.le_refl]
  · intro n i h' y hi S
    have C' := C.scr S
    have hn : ¬ cn σ 41 ≤ i := by omega
    rcases q : kinO σ c i
    · exact ⟨h', by simp (disch := omega) only [f_X11_judge_b35, f_X11_judge_b35_body, f_X11_judge_b100, obs, b10, b01, bm, if_true_, if_false_, eq_self, not_true_eq_false, not_false_eq_true, true_or, or_true, or_false, false_or, and_true, true_and, and_false, false_and, or_self, and_self, Bool.false_eq_true, ite_self, n25, n20, n24, n100, kr1_9 C', ki19_3 C', hL.1, nI_leI, hn, c_isKin C' W, q, judS, nI_1], S⟩
    · obtain ⟨h2, e2, S2⟩ := c_hurtOf (N := N) C' W hc hi hN
      refine ⟨h2, ?_, S.trans S2⟩
      by_cases q1 : hurO σ c i ≤ 0 <;> by_cases q2 : y.2 = 0 <;> by_cases q3 : y.2 ≤ hurO σ c i <;> simp (disch := omega) only [f_X11_judge_b35, f_X11_judge_b35_body, f_X11_judge_b80, f_X11_judge_b97, f_X11_judge_b100, obs, b10, b01, bm, if_true_, if_false_, eq_self, not_true_eq_false, not_false_eq_true, true_or, or_true, or_false, false_or, and_true, true_and, and_false, false_and, or_self, and_self, Bool.false_eq_true, ite_self, n25, n20, n24, n100, kr1_9 C', ki19_3 C', hL.1, nI_leI, hn, c_isKin C' W, q, e2, q1, q2, q3, judS, nI_1]
theorem r_judL (H : RS h σ) (W : WV σ) {c : Nat} (hc : c < cn σ 55) (hN : 1000 < N) : f_X12_judge_b35 N N h 100 (nI c) 0 0 0 = f_X12_judge_b35 N 1 h 100 (nI c) (itr (judS σ c) 0 (cn σ 41) (0, 0)).1 (itr (judS σ c) 0 (cn σ 41) (0, 0)).2 (nI (cn σ 41)) := by
  have hL := W.1.l
  refine lpB (fun n i (y : Int32 × Int32) => f_X12_judge_b35 N n h 100 (nI c) y.1 y.2 (nI i)) (judS σ c) (cn σ 41) (fun y => f_X12_judge_b35 N 1 h 100 (nI c) y.1 y.2 (nI (cn σ 41))) ?_ ?_ (m := cn σ 41) (i := 0) (a := (0, 0)) (by omega) (by omega)
  · intro n y
    simp (disch := omega) only [f_X12_judge_b35, f_X12_judge_b35_body, obs, b10, b01, bm, if_true_, if_false_, eq_self, not_true_eq_false, not_false_eq_true, true_or, or_true, or_false, false_or, and_true, true_and, and_false, false_and, or_self, and_self, Bool.false_eq_true, ite_self, n25, n20, n24, n100, RS.gi H, hL.1, nI_leI, Nat.le_refl]
  · intro n i y hi
    have hn : ¬ cn σ 41 ≤ i := by omega
    rcases q : kinO σ c i
    · simp (disch := omega) only [f_X12_judge_b35, f_X12_judge_b35_body, f_X12_judge_b98, obs, b10, b01, bm, if_true_, if_false_, eq_self, not_true_eq_false, not_false_eq_true, true_or, or_true, or_false, false_or, and_true, true_and, and_false, false_and, or_self, and_self, Bool.false_eq_true, ite_self, n25, n20, n24, n100, RS.gi H, hL.1, nI_leI, hn, r_isKin H W, q, judS, nI_1]
    · have e2 := r_hurt (N := N) H W hc hi q (by omega)
      by_cases q1 : hurO σ c i ≤ 0 <;> by_cases q2 : y.2 = 0 <;> by_cases q3 : y.2 ≤ hurO σ c i <;> simp (disch := omega) only [f_X12_judge_b35, f_X12_judge_b35_body, f_X12_judge_b74, f_X12_judge_b91, f_X12_judge_b96, f_X12_judge_b97, f_X12_judge_b98, obs, b10, b01, bm, if_true_, if_false_, eq_self, not_true_eq_false, not_false_eq_true, true_or, or_true, or_false, false_or, and_true, true_and, and_false, false_and, or_self, and_self, Bool.false_eq_true, ite_self, n25, n20, n24, n100, RS.gi H, hL.1, nI_leI, hn, r_isKin H W, q, e2, q1, q2, q3, judS, nI_1]
theorem r_pays {p : Nat} (H : RS h σ) (hp : cn σ 49 = p) (hp2 : σ.1 49 = nI p) (hn : p < 200) {x0 x1 x2 : Int32} : ∃ h', f_X12_pays h 100 x0 x1 x2 = some h' ∧ FRc h h' ∧ RS h' (s1 (s2 (s2 (s2 (s2 σ 50 p x0) 51 p x1) 52 p x2) 53 p 0) 49 (nI (p + 1))) := by
  have w1 := rw50 H (n := p) (x := x0) hn
  have w2 := rw51 w1.2 (n := p) (x := x1) hn
  have w3 := rw52 w2.2 (n := p) (x := x2) hn
  have w4 := rw53 w3.2 (n := p) (x := 0) hn
  have w5 := w4.2.fi 49 (nI (p + 1))
  have c1 : (s2 σ 50 p x0).1 49 = nI p := hp2
  have c2 : (s2 (s2 σ 50 p x0) 51 p x1).1 49 = nI p := hp2
  have c3 : (s2 (s2 (s2 σ 50 p x0) 51 p x1) 52 p x2).1 49 = nI p := hp2
  have c4 : (s2 (s2 (s2 (s2 σ 50 p x0) 51 p x1) 52 p x2) 53 p 0).1 49 = nI p := hp2
  refine ⟨_, ?_, ((((FRc.a (r := 150) (by omega) (by omega)).trans (FRc.a (r := 151) (by omega) (by omega))).trans (FRc.a (r := 152) (by omega) (by omega))).trans (FRc.a (r := 153) (by omega) (by omega))).trans FRc.f, w5⟩
  unfold f_X12_pays
  rw [if_pos H.1, rg50 H, obs, RS.gi H, obs, hp2, w1.1, obs, rg51 w1.2, obs, RS.gi w1.2, obs, c1, w2.1, obs, rg52 w2.2, obs, RS.gi w2.2, obs, c2, w3.1, obs, rg53 w3.2, obs, RS.gi w3.2, obs, c3, w4.1, obs, RS.gi w4.2, obs, c4, nI_1, w4.2.pi, obs]
theorem CS.ofA {r k : Nat} {x : Int32} (C : CS h σ tr u) (D : DD (sai h r k x) σ') (hr : r < 30 ∨ (34 ≤ r ∧ r < 390) ∨ (414 ≤ r ∧ r < 1000)) (g1 : ∀ k ∈ ks1, σ'.1 k = σ.1 k) (g2 : ∀ k ∈ ks2, σ'.2 k = σ.2 k) (W : CT σ) : CS (sai h r k x) σ' tr u :=
  C.of rfl rfl rfl rfl D (fun a ha => ai_sai_ne (by omega)) (fun j hj => ⟨rfl, rfl⟩) (fun _ _ => rfl) g1 g2 W
theorem CS.ofF {r k : Nat} {x : Int32} (C : CS h σ tr u) (D : DD (sfi h r k x) σ') (hr : r < 300 ∨ (300 ≤ r ∧ r < 324 ∧ k ≠ 0) ∨ (324 ≤ r ∧ r < 360) ∨ (384 ≤ r ∧ r < 1000)) (g1 : ∀ k ∈ ks1, σ'.1 k = σ.1 k) (g2 : ∀ k ∈ ks2, σ'.2 k = σ.2 k) (W : CT σ) : CS (sfi h r k x) σ' tr u :=
  C.of rfl rfl rfl rfl D (fun _ _ => rfl) (fun j hj => ⟨by rw [fi_sfi, if_neg (by omega)], fi_sfi_ne (by omega)⟩) (fun a ha => fi_sfi_ne (by omega)) g1 g2 W
theorem sai_9 {r k : Nat} {x : Int32} (S : kd h 9000 = 30 ∧ ln h 9000 = L ∧ ai h 9000 = xs) (hr : r < 9000) : kd (sai h r k x) 9000 = 30 ∧ ln (sai h r k x) 9000 = L ∧ ai (sai h r k x) 9000 = xs := by
  rw [ai_sai_ne (by omega)]; exact S
theorem sfi_9 {r k : Nat} {x : Int32} (S : kd h 9000 = 30 ∧ ln h 9000 = L ∧ ai h 9000 = xs) : kd (sfi h r k x) 9000 = 30 ∧ ln (sfi h r k x) 9000 = L ∧ ai (sfi h r k x) 9000 = xs := S
theorem WX.s60 {c p : Nat} (X : WX σ n) (hp : p < 200) : WX (s2 σ 60 c (nI p)) n := by
  refine ⟨X.1, X.2.1, X.2.2.1, X.2.2.2.1, X.2.2.2.2.1, fun j hj => ?_, X.2.2.2.2.2.2⟩
  rw [s2_ite]
  by_cases ej : j = c
  · rw [if_pos ⟨rfl, ej⟩, nI_1]; exact ⟨_, by omega, rfl⟩
  · rw [if_neg (fun z => ej z.2)]; exact X.2.2.2.2.2.1 j hj
theorem xts20 {x0 x1 x2 x3 : Int32} (X : WX σ n) : WX (ts20 σ x0 x1 x2 x3) n := by
  refine X.of (fun k hk => ?_) (fun k hk => ?_)
  · have t : ∀ k ∈ xs1, k ≠ 49 := by decide
    exact s1_ne (t k hk)
  · have t : ∀ k ∈ xs2, k ≠ 50 ∧ k ≠ 51 ∧ k ≠ 52 ∧ k ≠ 53 := by decide
    obtain ⟨t0, t1, t2, t3⟩ := t k hk
    show (s2 (s2 (s2 (s2 σ 50 (cn σ 49) x0) 51 (cn σ 49) x1) 52 (cn σ 49) x2) 53 (cn σ 49) x3).2 k = σ.2 k
    rw [s2_row t3, s2_row t2, s2_row t1, s2_row t0]
theorem sts20 {x0 x1 x2 x3 : Int32} (S : kd h 9000 = 30 ∧ ln h 9000 = L ∧ ai h 9000 = xs) : kd (ta20 h σ x0 x1 x2 x3) 9000 = 30 ∧ ln (ta20 h σ x0 x1 x2 x3) 9000 = L ∧ ai (ta20 h σ x0 x1 x2 x3) 9000 = xs := sfi_9 (sai_9 (sai_9 (sai_9 (sai_9 S (by omega)) (by omega)) (by omega)) (by omega))
theorem judge_eq {c p : Nat} {x0 x1 x2 y z : Int32} (hp : cn σ 49 = p) : s1 (s2 (s2 (s2 (s2 (s2 (s2 σ 59 c y) 60 c z) 50 p x0) 51 p x1) 52 p x2) 53 p 0) 49 (nI (p + 1)) = s2 (s2 (ts20 σ x0 x1 x2 0) 59 c y) 60 c z := by
  subst hp
  have e : s2 (s2 (s2 (s2 (s2 (s2 σ 50 (cn σ 49) x0) 51 (cn σ 49) x1) 52 (cn σ 49) x2) 53 (cn σ 49) 0) 59 c y) 60 c z = s2 (s2 (s2 (s2 (s2 (s2 σ 59 c y) 60 c z) 50 (cn σ 49) x0) 51 (cn σ 49) x1) 52 (cn σ 49) x2) 53 (cn σ 49) 0 := by
    rw [s2_comm (k := 53) (k' := 59) (by decide), s2_comm (k := 52) (k' := 59) (by decide), s2_comm (k := 51) (k' := 59) (by decide), s2_comm (k := 50) (k' := 59) (by decide), s2_comm (k := 53) (k' := 60) (by decide), s2_comm (k := 52) (k' := 60) (by decide), s2_comm (k := 51) (k' := 60) (by decide), s2_comm (k := 50) (k' := 60) (by decide)]
  rw [← e]
  rfl
theorem WL_s2 {k j : Nat} {x : Int32} (W : WL σ) (hk : 5 ≠ k) : WL (s2 σ k j x) := by
  unfold WL
  rw [s2_row hk]
  exact W
theorem judge_am (W : WV σ) {f : Nat} {y : Int32} (hf : f < cn σ 26) (yb : bd y 10000) : ∃ am, am < 990000 ∧ σ.2 30 f * y = nI am := by
  obtain ⟨ar, har, ear⟩ := wv30 W hf
  obtain ⟨le, hle, ele⟩ := yb
  refine ⟨ar * le, ?_, by rw [ear, ele, nI_mul]⟩
  have : ar * le ≤ 99 * 9999 := Nat.mul_le_mul (by omega) (by omega)
  omega
theorem judge_award {c : Nat} {y : Int32 × Int32} {h1 : AH} (I : INV L xs h1 σ tr u n) (hc : c < cn σ 55) (q1 : 0 < y.1) (yb : bd y.2 10000) (hn : cn σ 49 < 200) : ∃ h4 h5 σ', f_X11_judge_b35 N 1 h1 1 (nI c) y.1 y.2 (nI (cn σ 41)) = some (1, h4) ∧ RS h4 σ ∧ f_X12_judge_b35 N 1 h4 100 (nI c) y.1 y.2 (nI (cn σ 41)) = some (1, h5) ∧ (kd h4 9000 = 30 ∧ ln h4 9000 = L ∧ ai h4 9000 = xs) ∧ INV L xs h5 σ' tr u (n + 1) := by
  obtain ⟨C1, H1, W, X, Sx, U⟩ := id I
  have hP := W.1.p
  have hQ := W.1.q
  have hL := W.1.l
  have hF := W.1.f
  have q1' : ¬ y.1 ≤ 0 := Int32.not_le.mpr q1
  have q2 : ¬ cn σ 49 = 200 := by omega
  obtain ⟨⟨eF, hf⟩, ⟨eS, hs⟩, ⟨eT, ht⟩⟩ := pl_ok W hc
  obtain ⟨am, hab, ham⟩ := judge_am W hf yb
  obtain ⟨a1, C2⟩ := kadd20 C1 W.1 (x0 := nI (plF σ c)) (x1 := nI (plS σ c)) (x2 := nI (am)) (x3 := 0) hn
  have W2 := wts20 W hn (x0 := nI (plF σ c)) (x1 := nI (plS σ c)) (x2 := nI (am)) (x3 := 0) ⟨_, hf, rfl⟩ ⟨_, hs, rfl⟩ ⟨_, hab, rfl⟩ ⟨0, by omega, lt0⟩
  clear hab
  have H2 : RS (ta20 h1 σ (nI (plF σ c)) (nI (plS σ c)) (nI (am)) 0) σ := rts20 H1
  have S2 := sts20 (σ := σ) (x0 := nI (plF σ c)) (x1 := nI (plS σ c)) (x2 := nI (am)) (x3 := 0) Sx
  have X2 := xts20 (x0 := nI (plF σ c)) (x1 := nI (plS σ c)) (x2 := nI (am)) (x3 := 0) (X.up (m := n + 1) (by omega))
  have jq := fun (y z : Int32) => judge_eq (σ := σ) (c := c) (p := cn σ 49) (x0 := nI (plF σ c)) (x1 := nI (plS σ c)) (x2 := nI (am)) (y := y) (z := z) rfl
  generalize ta20 h1 σ (nI (plF σ c)) (nI (plS σ c)) (nI (am)) 0 = hx at a1 C2 H2 S2
  generalize ts20 σ (nI (plF σ c)) (nI (plS σ c)) (nI (am)) 0 = σx at C2 W2 X2 jq
  have p1 := kp21_3 C2 (j := c) (v := 1) (by omega)
  have C3 : CS (sai hx 37 (5 * c + 3) 1) (s2 σx 59 c 1) tr u := C2.ofA (C2.d.wA W2.1.B (r := 37) (st := 5) (o := 3) (k := 59) (n := 20) (by decide) (by omega)) (by omega) (fun _ _ => rfl) (ks2_row (by decide)) W2.1
  have W3 : WV (s2 σx 59 c 1) := W2.of (fun _ _ => rfl) (vs2_row (by decide)) (W2.2.1.w2_59 ⟨1, by omega, by decide⟩) (WL_s2 W2.2.2.1 (by decide))
  have X3 : WX (s2 σx 59 c 1) (n + 1) := X2.of (fun _ _ => rfl) (xs2_row (by decide))
  have p2 := kp21_4 C3 (j := c) (v := nI (cn σ 49)) (by omega)
  have C4 : CS (sai (sai hx 37 (5 * c + 3) 1) 37 (5 * c + 4) (nI (cn σ 49))) (s2 (s2 σx 59 c 1) 60 c (nI (cn σ 49))) tr u := C3.ofA (C3.d.wA W3.1.B (r := 37) (st := 5) (o := 4) (k := 60) (n := 20) (by decide) (by omega)) (by omega) (fun _ _ => rfl) (ks2_row (by decide)) W3.1
  have W4 : WV (s2 (s2 σx 59 c 1) 60 c (nI (cn σ 49))) := W3.of (fun _ _ => rfl) (vs2_row (by decide)) (W3.2.1.w2_n (by decide)) (WL_s2 W3.2.2.1 (by decide))
  have X4 : WX (s2 (s2 σx 59 c 1) 60 c (nI (cn σ 49))) (n + 1) := X3.s60 hn
  have H4 : RS (sai (sai hx 37 (5 * c + 3) 1) 37 (5 * c + 4) (nI (cn σ 49))) σ := rsA (rsA H2 (by omega)) (by omega)
  have S4 := sai_9 (r := 37) (k := 5 * c + 4) (x := nI (cn σ 49)) (sai_9 (r := 37) (k := 5 * c + 3) (x := 1) S2 (by omega)) (by omega)
  generalize sai (sai hx 37 (5 * c + 3) 1) 37 (5 * c + 4) (nI (cn σ 49)) = h4 at C4 H4 S4 p2
  have w1 := rw59 H4 (n := c) (x := 1) (by omega)
  have w2 := rw60 w1.2 (n := c) (x := nI (cn σ 49)) (by omega)
  obtain ⟨h5, e5, F5, H5⟩ := r_pays (p := cn σ 49) w2.2 rfl hP.1 hn (x0 := nI (plF σ c)) (x1 := nI (plS σ c)) (x2 := nI (am))
  rw [jq] at H5
  refine ⟨h4, h5, _, ?_, H4, ?_, S4, I.st C4 (((FRc.a (r := 159) (by omega) (by omega)).trans (FRc.a (r := 160) (by omega) (by omega))).trans F5) H5 W4 X4 S4 (by omega)⟩
  · have kf : f_X7_isFull h1 20 = some 0 := by rw [kfull20 C1 W.1, if_neg q2]
    have aw : f_X11_award h1 1 (nI c) y.2 = some h4 := by
      unfold f_X11_award
      rw [if_pos (kk1 C1), kr1_11 C1, obs, ka21_0 C1 (by omega), obs, kr1_2 C1, obs, eF, kg12 C1 W.1 hf, obs, kc300 C1 hf, obs, kf300_3 C1 hf, obs, kr1_10 C1, obs, obs, ka21_1 C1 (by omega), obs, eS, ham, a1, obs]
      simp only []
      rw [kr1_11 C2, obs, p1, obs, kr1_11 C3, obs, p2, obs]
    simp (disch := omega) only [f_X11_judge_b35, f_X11_judge_b35_body, obs, b10, b01, bm, if_true_, if_false_, eq_self, not_true_eq_false, not_false_eq_true, true_or, or_true, or_false, false_or, and_true, true_and, and_false, false_and, or_self, and_self, Bool.false_eq_true, ite_self, n25, n20, n24, n100, kr1_9 C1, ki19_3 C1, hL.1, nI_leI, Nat.le_refl, q1, kr1_10 C1, kf, aw]
  · have q2' : ¬ σ.1 49 = 200 := by rw [hP.1, lt200, nI_eq (by omega) (by decide)]; exact q2
    have cc1 : (s2 σ 59 c 1).1 49 = nI (cn σ 49) := hP.1
    have v56 : (s2 (s2 σ 59 c 1) 60 c (nI (cn σ 49))).2 56 c = nI (plF σ c) := by rw [s2_row (by decide), s2_row (by decide)]; exact eF
    have v57 : (s2 (s2 σ 59 c 1) 60 c (nI (cn σ 49))).2 57 c = nI (plS σ c) := by rw [s2_row (by decide), s2_row (by decide)]; exact eS
    have v30 : (s2 (s2 σ 59 c 1) 60 c (nI (cn σ 49))).2 30 (plF σ c) = σ.2 30 (plF σ c) := by rw [s2_row (by decide), s2_row (by decide)]
    simp (disch := omega) only [f_X12_judge_b35, f_X12_judge_b35_body, f_X12_judge_b121, f_X12_judge_b135, obs, b10, b01, bm, if_true_, if_false_, eq_self, not_true_eq_false, not_false_eq_true, true_or, or_true, or_false, false_or, and_true, true_and, and_false, false_and, or_self, and_self, Bool.false_eq_true, ite_self, n25, n20, n24, n100, RS.gi H4, hL.1, nI_leI, Nat.le_refl, q1, q1', q2', rg59 H4, w1.1, rg60 w1.2, RS.gi w1.2, cc1, w2.1, rg56 w2.2, ra56 w2.2, v56, rg57 w2.2, ra57 w2.2, v57, rg30 w2.2, ra30 w2.2, v30, ham, e5]
theorem pub_judge {a : Int32} (I : INV L xs h σ tr u n) (hN : 2000 < N) : ∃ v h1 h2 σ' tr' u', f_X11_judge h N 1 a = some (v, h1) ∧ f_X12_judge h1 N 100 a = some (v, h2) ∧ (kd h1 9000 = 30 ∧ ln h1 9000 = L ∧ ai h1 9000 = xs) ∧ INV L xs h2 σ' tr' u' (n + 1) := by
  obtain ⟨C, H, W, X, S, U⟩ := id I
  have hG := W.1.g
  have hT := W.1.t
  have hF := W.1.f
  have hTl := W.1.tl
  have hP := W.1.p
  have hQ := W.1.q
  have hL := W.1.l
  rcases okC a (n := cn σ 55) (by omega) with oa | ⟨oa, c, hc, rfl⟩
  · exact ⟨-1, h, h, σ, tr, u, by simp only [f_X11_judge, obs, b10, b01, bm, if_true_, if_false_, eq_self, not_true_eq_false, not_false_eq_true, true_or, or_true, or_false, false_or, and_true, true_and, and_false, false_and, or_self, and_self, Bool.false_eq_true, ite_self, n25, n20, n24, n100, kk1 C, kr1_11 C, c_has21 C W.1, oa], by simp (disch := omega) only [f_X12_judge, obs, b10, b01, bm, if_true_, if_false_, eq_self, not_true_eq_false, not_false_eq_true, true_or, or_true, or_false, false_or, and_true, true_and, and_false, false_and, or_self, and_self, Bool.false_eq_true, ite_self, n25, n20, n24, n100, RS.kk H, RS.gi H, hQ.1, in_ok1, oa], S, I.up (by omega)⟩
  by_cases q0 : σ.2 59 c = 0
  · obtain ⟨h1, e1, S1⟩ := c_judL (N := N) C W hc (by omega)
    have I1 := I.scr S1
    have C1 := I1.1
    have H1 := I1.2.1
    have Sx := I1.2.2.2.2.1
    have yb := jud_bd W hc
    obtain ⟨⟨eF, hf⟩, ⟨eS, hs⟩, ⟨eT, ht⟩⟩ := pl_ok W hc
    have r1 : ∀ h2, RS h2 σ → f_X12_judge_b35 N N h2 100 (nI c) 0 0 0 = _ := fun h2 H2 => r_judL (N := N) H2 W hc (by omega)
    generalize itr (judS σ c) 0 (cn σ 41) (0, 0) = y at e1 r1 yb
    have x1 : f_X11_judge h N 1 (nI c) = f_X11_judge_b35 N 1 h1 1 (nI c) y.1 y.2 (nI (cn σ 41)) := by
      simp (disch := omega) only [f_X11_judge, obs, b10, b01, bm, if_true_, if_false_, eq_self, not_true_eq_false, not_false_eq_true, true_or, or_true, or_false, false_or, and_true, true_and, and_false, false_and, or_self, and_self, Bool.false_eq_true, ite_self, n25, n20, n24, n100, kk1 C, kr1_11 C, c_has21 C W.1, oa, ka21_3 C, q0, e1]
    have x2 : ∀ h2, RS h2 σ → f_X12_judge h2 N 100 (nI c) = f_X12_judge_b35 N 1 h2 100 (nI c) y.1 y.2 (nI (cn σ 41)) := by
      intro h2 H2
      simp (disch := omega) only [f_X12_judge, obs, b10, b01, bm, if_true_, if_false_, eq_self, not_true_eq_false, not_false_eq_true, true_or, or_true, or_false, false_or, and_true, true_and, and_false, false_and, or_self, and_self, Bool.false_eq_true, ite_self, n25, n20, n24, n100, RS.kk H2, RS.gi H2, hQ.1, in_ok1, oa, rg59 H2, ra59 H2, q0, r1 h2 H2]
    by_cases q1 : 0 < y.1
    · have q1' : ¬ y.1 ≤ 0 := Int32.not_le.mpr q1
      by_cases q2 : cn σ 49 = 200
      · have q2' : σ.1 49 = 200 := by rw [hP.1, q2]; rfl
        have kf : f_X7_isFull h1 20 = some 1 := by rw [kfull20 C1 W.1, if_pos q2]
        refine ⟨-4, h1, h1, σ, tr, u, ?_, ?_, Sx, I1.up (by omega)⟩
        · rw [x1]
          simp (disch := omega) only [f_X11_judge_b35, f_X11_judge_b35_body, obs, b10, b01, bm, if_true_, if_false_, eq_self, not_true_eq_false, not_false_eq_true, true_or, or_true, or_false, false_or, and_true, true_and, and_false, false_and, or_self, and_self, Bool.false_eq_true, ite_self, n25, n20, n24, n100, kr1_9 C1, ki19_3 C1, hL.1, nI_leI, Nat.le_refl, q1, kr1_10 C1, kf]
        · rw [x2 h1 H1]
          simp (disch := omega) only [f_X12_judge_b35, f_X12_judge_b35_body, obs, b10, b01, bm, if_true_, if_false_, eq_self, not_true_eq_false, not_false_eq_true, true_or, or_true, or_false, false_or, and_true, true_and, and_false, false_and, or_self, and_self, Bool.false_eq_true, ite_self, n25, n20, n24, n100, RS.gi H1, hL.1, nI_leI, Nat.le_refl, q1', q2']
      · obtain ⟨h4, h5, σ', z1, H4, z2, S4, I4⟩ := judge_award (N := N) I1 hc q1 yb (by omega)
        exact ⟨1, h4, h5, σ', tr, u, by rw [x1]; exact z1, by rw [x2 h4 H4]; exact z2, S4, I4⟩
    · have q1' : y.1 ≤ 0 := Int32.not_lt.mp q1
      have p1 := kp21_3 C1 (j := c) (v := 2) (by omega)
      have C3 : CS (sai h1 37 (5 * c + 3) 2) (s2 σ 59 c 2) tr u := C1.of rfl rfl rfl rfl (C1.d.wA W.1.B (r := 37) (st := 5) (o := 3) (k := 59) (n := 20) (by decide) (by omega)) (fun r hr => ai_sai_ne (by omega)) (fun j hj => ⟨rfl, rfl⟩) (fun _ _ => rfl) (fun _ _ => rfl) (ks2_row (by decide)) W.1
      have H3 : RS (sai h1 37 (5 * c + 3) 2) σ := rsA H1 (by omega)
      have S3 : kd (sai h1 37 (5 * c + 3) 2) 9000 = 30 ∧ ln (sai h1 37 (5 * c + 3) 2) 9000 = L ∧ ai (sai h1 37 (5 * c + 3) 2) 9000 = xs := by rw [ai_sai_ne (by omega)]; exact Sx
      have w1 := rw59 H3 (n := c) (x := 2) (by omega)
      refine ⟨0, _, _, _, tr, u, ?_, ?_, S3, I.st C3 (FRc.a (r := 159) (by omega) (by omega)) w1.2 (W.of (fun _ _ => rfl) (vs2_row (by decide)) (W.2.1.w2_59 ⟨2, by omega, by decide⟩) W.2.2.1) ((X.up (by omega)).of (fun _ _ => rfl) (xs2_row (by decide))) S3 (by omega)⟩
      · rw [x1]
        simp (disch := omega) only [f_X11_judge_b35, f_X11_judge_b35_body, obs, b10, b01, bm, if_true_, if_false_, eq_self, not_true_eq_false, not_false_eq_true, true_or, or_true, or_false, false_or, and_true, true_and, and_false, false_and, or_self, and_self, Bool.false_eq_true, ite_self, n25, n20, n24, n100, kr1_9 C1, ki19_3 C1, hL.1, nI_leI, Nat.le_refl, q1, kr1_11 C1, p1]
      · rw [x2 _ H3]
        simp (disch := omega) only [f_X12_judge_b35, f_X12_judge_b35_body, f_X12_judge_b121, f_X12_judge_b135, obs, b10, b01, bm, if_true_, if_false_, eq_self, not_true_eq_false, not_false_eq_true, true_or, or_true, or_false, false_or, and_true, true_and, and_false, false_and, or_self, and_self, Bool.false_eq_true, ite_self, n25, n20, n24, n100, RS.gi H3, hL.1, nI_leI, Nat.le_refl, q1, q1', rg59 H3, w1.1]
  · exact ⟨-3, h, h, σ, tr, u, by simp (disch := omega) only [f_X11_judge, obs, b10, b01, bm, if_true_, if_false_, eq_self, not_true_eq_false, not_false_eq_true, true_or, or_true, or_false, false_or, and_true, true_and, and_false, false_and, or_self, and_self, Bool.false_eq_true, ite_self, n25, n20, n24, n100, kk1 C, kr1_11 C, c_has21 C W.1, oa, ka21_3 C, q0], by simp (disch := omega) only [f_X12_judge, obs, b10, b01, bm, if_true_, if_false_, eq_self, not_true_eq_false, not_false_eq_true, true_or, or_true, or_false, false_or, and_true, true_and, and_false, false_and, or_self, and_self, Bool.false_eq_true, ite_self, n25, n20, n24, n100, RS.kk H, RS.gi H, hQ.1, in_ok1, oa, rg59 H, ra59 H, q0], S, I.up (by omega)⟩
end
