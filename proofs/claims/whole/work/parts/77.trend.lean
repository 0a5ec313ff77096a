/-! ===== public: trend, share ===== -/
section
variable {L N : Nat} {xs : Nat → Int32} {h h' : AH} {σ σ' : SG} {tr : Nat → Nat} {u n : Nat}
def trS (σ : SG) (g t p k s : Nat) (x : Nat × Nat × Nat × Nat × Nat) : Nat × Nat × Nat × Nat × Nat := if knowO σ g s then (x.1 + 1, x.2.1 + s, x.2.2.1 + payN σ g t p k s, x.2.2.2.1 + s * payN σ g t p k s, x.2.2.2.2 + s * s) else x
def trX (σ : SG) (g t p k : Nat) : Nat × Nat × Nat × Nat × Nat := itr (trS σ g t p k) 0 16 (0, 0, 0, 0, 0)
theorem trX_1 {g t p k : Nat} : ∀ {m i : Nat} {x : Nat × Nat × Nat × Nat × Nat}, (itr (trS σ g t p k) i m x).1 = itr (knC σ g) i m x.1 ∧ (itr (trS σ g t p k) i m x).2.2.1 = itr (pdC σ g t p k) i m x.2.2.1 := by
  intro m
  induction m with
  | zero => intro i x; exact ⟨rfl, rfl⟩
  | succ m ih =>
    intro i x
    have := ih (i := i + 1) (x := trS σ g t p k i x)
    have e1 : (trS σ g t p k i x).1 = knC σ g i x.1 := by unfold trS knC; split <;> rfl
    have e2 : (trS σ g t p k i x).2.2.1 = pdC σ g t p k i x.2.2.1 := by unfold trS pdC; split <;> rfl
    rw [e1, e2] at this
    exact this
def trI (i : Nat) (x : Nat × Nat × Nat × Nat × Nat) : Prop := x.1 ≤ i ∧ x.2.1 ≤ x.1 * i ∧ x.2.2.1 ≤ 9999 * x.1 ∧ x.2.2.2.1 ≤ 149985 * x.1 ∧ x.2.2.2.2 ≤ 225 * x.1 ∧ 2 * (i * x.2.1) + x.1 ≤ x.2.2.2.2 + x.1 * (i * i) ∧ x.2.1 * x.2.1 + x.1 ≤ x.1 * x.2.2.2.2 + 1
theorem trI_st (W : WV σ) {g t p k : Nat} (ht : t < cn σ 13) (hp : p < 6) {i : Nat} {x : Nat × Nat × Nat × Nat × Nat} (hi : i < 16) (hx : trI i x) : trI (i + 1) (trS σ g t p k i x) := by
  obtain ⟨a1, a2, a3, a4, a5, a6, a7⟩ := hx
  have hP := (payN_ok W (g := g) (k := k) (s := i) ht hp).1
  obtain ⟨c, nu, pa, bo, sq⟩ := x
  simp only at a1 a2 a3 a4 a5 a6 a7
  have m1 : c * (i + 1) = c * i + c := by rw [Nat.mul_add, Nat.mul_one]
  have m2 : (i + 1) * (i + 1) = i * i + i + i + 1 := by rw [Nat.add_mul, Nat.mul_add, Nat.one_mul, Nat.mul_one]; omega
  have m3 : c * ((i + 1) * (i + 1)) = c * (i * i) + c * i + c * i + c := by rw [m2, Nat.mul_add, Nat.mul_add, Nat.mul_add, Nat.mul_one]
  have m4 : (i + 1) * nu = i * nu + nu := by rw [Nat.add_mul, Nat.one_mul]
  unfold trS
  by_cases q : knowO σ g i = true
  · rw [if_pos q]
    have b1 : i * payN σ g t p k i ≤ 15 * 9999 := Nat.mul_le_mul (by omega) (by omega)
    have b2 : i * i ≤ 15 * 15 := Nat.mul_le_mul (by omega) (by omega)
    have m5 : (c + 1) * (i + 1) = c * i + c + i + 1 := by rw [Nat.add_mul, m1, Nat.one_mul]; omega
    have m6 : (c + 1) * ((i + 1) * (i + 1)) = c * (i * i) + c * i + c * i + c + i * i + i + i + 1 := by rw [Nat.add_mul, m3, m2, Nat.one_mul]; omega
    have m7 : (i + 1) * (nu + i) = i * nu + nu + i * i + i := by rw [Nat.add_mul, Nat.mul_add, Nat.one_mul]; omega
    have m8 : (nu + i) * (nu + i) = nu * nu + i * nu + i * nu + i * i := by rw [Nat.add_mul, Nat.mul_add, Nat.mul_add, Nat.mul_comm nu i]; omega
    have m9 : (c + 1) * (sq + i * i) = c * sq + c * (i * i) + sq + i * i := by rw [Nat.add_mul, Nat.mul_add, Nat.one_mul]; omega
    refine ⟨?_, ?_, ?_, ?_, ?_, ?_, ?_⟩ <;> simp only
    · omega
    · rw [m5]; omega
    · omega
    · omega
    · omega
    · rw [m6, m7]; omega
    · rw [m8, m9]
      by_cases c0 : c = 0
      · subst c0
        have n0 : nu = 0 := by rw [Nat.zero_mul] at a2; omega
        subst n0
        simp only [Nat.mul_zero, Nat.zero_mul]
        omega
      · omega
  · rw [if_neg q]
    refine ⟨?_, ?_, ?_, ?_, ?_, ?_, ?_⟩ <;> simp only
    · omega
    · rw [m1]; omega
    · omega
    · omega
    · omega
    · rw [m3, m4]; omega
    · omega
theorem trI_X (W : WV σ) {g t p k : Nat} (ht : t < cn σ 13) (hp : p < 6) : trI 16 (trX σ g t p k) := by
  have := itr_inv (st := trS σ g t p k) trI (m := 16) (i := 0) (a := (0, 0, 0, 0, 0)) (by unfold trI; simp) (fun j x _ hj hx => trI_st W ht hp (by omega) hx)
  exact this
theorem absS {a b : Nat} (ha : a < 2 ^ 61) (hb : b < 2 ^ 61) : ∃ A, A < 2 ^ 62 ∧ (if 0 < lN a - lN b then lN a - lN b else -(lN a - lN b)) = lN A := by
  by_cases q : b ≤ a
  · rw [lN_sub q]
    exact ⟨a - b, by omega, absN (by omega)⟩
  · have h1 := pk_lT (n := a) (by omega)
    have h2 := pk_lT (n := b) (by omega)
    have h3 : (lN a - lN b).toInt = (a : Int) - b := by
      rw [Int64.toInt_sub, h1, h2]
      apply Int.bmod_eq_of_le <;> omega
    refine ⟨b - a, by omega, ?_⟩
    have q2 : ¬ 0 < lN a - lN b := by
      rw [Int64.lt_iff_toInt_lt, h3, show (0 : Int64).toInt = 0 by decide]
      omega
    rw [if_neg q2]
    apply Int64.toInt_inj.mp
    rw [Int64.toInt_neg, h3, pk_lT (by omega)]
    have : -((a : Int) - b) = ((b - a : Nat) : Int) := by omega
    rw [this]
    apply Int.bmod_eq_of_le <;> omega
theorem r_trend (H : RS h σ) (W : WV σ) {g t p k : Nat} {w : Int32} (ht : t < cn σ 13) (hg : g < cn σ 0) (hp : p < 6) (hk : k < 4) (hN : 100 < N) : f_X12_trend_b44 h N N 100 (nI t) (nI g) (nI p) (nI k) w 0 0 0 0 0 0 = (if 2 ≤ (trX σ g t p k).1 then (f_X12_part h N (lN ((trX σ g t p k).1 * (trX σ g t p k).2.2.2.1) - lN ((trX σ g t p k).2.1 * (trX σ g t p k).2.2.1)) (lN ((trX σ g t p k).1 * (trX σ g t p k).2.2.2.2) - lN ((trX σ g t p k).2.1 * (trX σ g t p k).2.1)) w).bind fun v => some v else some (-9223372036854775808)) := by
  have hG := W.1.g
  refine (lpA (fun n i (x : Nat × Nat × Nat × Nat × Nat) => f_X12_trend_b44 h N n 100 (nI t) (nI g) (nI p) (nI k) w (lN x.1) (lN x.2.1) (lN x.2.2.1) (lN x.2.2.2.1) (lN x.2.2.2.2) (nI i)) (trS σ g t p k) 16 (fun x => if 2 ≤ x.1 then (f_X12_part h N (lN (x.1 * x.2.2.2.1) - lN (x.2.1 * x.2.2.1)) (lN (x.1 * x.2.2.2.2) - lN (x.2.1 * x.2.1)) w).bind fun v => some v else some (-9223372036854775808)) (fun i x => x.1 ≤ i) ?_ ?_ 16 N 0 (0, 0, 0, 0, 0) (by omega) (by omega) (by simp)).1
  · intro n x hx
    have e2 : (2 : Int64) = lN 2 := by decide
    have hc : (0 ≤ lg_cmp (lN x.1) 2) = (2 ≤ x.1) := by
      apply propext
      rw [← Int32.not_lt, cmp_lt, e2, pk_lLT (by omega) (by omega)]
      omega
    by_cases q : 2 ≤ x.1 <;> simp (disch := omega) only [f_X12_trend_b44, f_X12_trend_b44_body, obs, b10, b01, bm, if_true_, if_false_, eq_self, not_true_eq_false, not_false_eq_true, true_or, or_true, or_false, false_or, and_true, true_and, and_false, false_and, or_self, and_self, Bool.false_eq_true, ite_self, n25, n20, n24, n100, lt16, nI_leI, Nat.le_refl, hc, q, lN_mul]
  · intro n i x hi hx
    have hn : ¬ 16 ≤ i := by omega
    have hP := (payN_ok W (g := g) (k := k) (s := i) ht hp).1
    have l1 : (1 : Int64) = lN 1 := by decide
    have ii : i * i ≤ 15 * 15 := Nat.mul_le_mul (by omega) (by omega)
    refine ⟨?_, by unfold trS; split <;> first | omega | (simp only; omega)⟩
    rcases q : knowO σ g i <;> simp (disch := omega) only [f_X12_trend_b44, f_X12_trend_b44_body, f_X12_trend_b119, obs, b10, b01, bm, if_true_, if_false_, eq_self, not_true_eq_false, not_false_eq_true, true_or, or_true, or_false, false_or, and_true, true_and, and_false, false_and, or_self, and_self, Bool.false_eq_true, ite_self, n25, n20, n24, n100, lt16, nI_leI, hn, r_isKnown H W, q, r_payN H W, trS, l1, nI_l, nI_mul, lN_mul, lN_add, nI_1]
theorem pub_trend {a b c d e : Int32} (I : INV L xs h σ tr u n) (hN : 2000 < N) : ∃ v h1, f_X11_trend h N 1 a b c d e = some (v, h1) ∧ f_X12_trend h1 N 100 a b c d e = some v ∧ INV L xs h1 σ tr u n := by
  obtain ⟨C, H, W, X, S, U⟩ := id I
  have hG := W.1.g
  have hT := W.1.t
  rcases okC a (n := cn σ 13) (by omega) with oa | ⟨oa, t, ht, rfl⟩
  · exact ⟨-9223372036854775808, h, by simp only [f_X11_trend, f_X11_isOffer, obs, b10, b01, bm, if_true_, if_false_, eq_self, not_true_eq_false, not_false_eq_true, true_or, or_true, or_false, false_or, and_true, true_and, and_false, false_and, or_self, and_self, Bool.false_eq_true, ite_self, n25, n20, n24, n100, kk1 C, RS.kk H, c_isGauge C W.1, c_isTerm C W.1, c_isFarm C W.1, c_isSeason, c_isPlace, r_isGauge H W.1, r_isTerm H W.1, r_isFarm H W.1, r_isSeason, r_isWeek, r_isPlace, r_isSheet, ci1, ri1, ci2, ri2, ci3, ri3, ci4, ri4, ci5, ri5, ci11, ri11, ci16, ri16, ci98, ri98, ci99, ri99, ci198, ri198, ci9999, ri9999, oa], by simp only [f_X12_trend, f_X12_isAsked, obs, b10, b01, bm, if_true_, if_false_, eq_self, not_true_eq_false, not_false_eq_true, true_or, or_true, or_false, false_or, and_true, true_and, and_false, false_and, or_self, and_self, Bool.false_eq_true, ite_self, n25, n20, n24, n100, kk1 C, RS.kk H, c_isGauge C W.1, c_isTerm C W.1, c_isFarm C W.1, c_isSeason, c_isPlace, r_isGauge H W.1, r_isTerm H W.1, r_isFarm H W.1, r_isSeason, r_isWeek, r_isPlace, r_isSheet, ci1, ri1, ci2, ri2, ci3, ri3, ci4, ri4, ci5, ri5, ci11, ri11, ci16, ri16, ci98, ri98, ci99, ri99, ci198, ri198, ci9999, ri9999, oa], I⟩
  rcases okC b (n := cn σ 0) (by omega) with ob | ⟨ob, g, hg, rfl⟩
  · exact ⟨-9223372036854775808, h, by simp only [f_X11_trend, f_X11_isOffer, obs, b10, b01, bm, if_true_, if_false_, eq_self, not_true_eq_false, not_false_eq_true, true_or, or_true, or_false, false_or, and_true, true_and, and_false, false_and, or_self, and_self, Bool.false_eq_true, ite_self, n25, n20, n24, n100, kk1 C, RS.kk H, c_isGauge C W.1, c_isTerm C W.1, c_isFarm C W.1, c_isSeason, c_isPlace, r_isGauge H W.1, r_isTerm H W.1, r_isFarm H W.1, r_isSeason, r_isWeek, r_isPlace, r_isSheet, ci1, ri1, ci2, ri2, ci3, ri3, ci4, ri4, ci5, ri5, ci11, ri11, ci16, ri16, ci98, ri98, ci99, ri99, ci198, ri198, ci9999, ri9999, oa, ob], by simp only [f_X12_trend, f_X12_isAsked, obs, b10, b01, bm, if_true_, if_false_, eq_self, not_true_eq_false, not_false_eq_true, true_or, or_true, or_false, false_or, and_true, true_and, and_false, false_and, or_self, and_self, Bool.false_eq_true, ite_self, n25, n20, n24, n100, kk1 C, RS.kk H, c_isGauge C W.1, c_isTerm C W.1, c_isFarm C W.1, c_isSeason, c_isPlace, r_isGauge H W.1, r_isTerm H W.1, r_isFarm H W.1, r_isSeason, r_isWeek, r_isPlace, r_isSheet, ci1, ri1, ci2, ri2, ci3, ri3, ci4, ri4, ci5, ri5, ci11, ri11, ci16, ri16, ci98, ri98, ci99, ri99, ci198, ri198, ci9999, ri9999, oa, ob], I⟩
  rcases okC c (n := 6) (by decide) with oc | ⟨oc, p, hp, rfl⟩
  · exact ⟨-9223372036854775808, h, by simp only [f_X11_trend, f_X11_isOffer, obs, b10, b01, bm, if_true_, if_false_, eq_self, not_true_eq_false, not_false_eq_true, true_or, or_true, or_false, false_or, and_true, true_and, and_false, false_and, or_self, and_self, Bool.false_eq_true, ite_self, n25, n20, n24, n100, kk1 C, RS.kk H, c_isGauge C W.1, c_isTerm C W.1, c_isFarm C W.1, c_isSeason, c_isPlace, r_isGauge H W.1, r_isTerm H W.1, r_isFarm H W.1, r_isSeason, r_isWeek, r_isPlace, r_isSheet, ci1, ri1, ci2, ri2, ci3, ri3, ci4, ri4, ci5, ri5, ci11, ri11, ci16, ri16, ci98, ri98, ci99, ri99, ci198, ri198, ci9999, ri9999, oa, ob, oc], by simp only [f_X12_trend, f_X12_isAsked, obs, b10, b01, bm, if_true_, if_false_, eq_self, not_true_eq_false, not_false_eq_true, true_or, or_true, or_false, false_or, and_true, true_and, and_false, false_and, or_self, and_self, Bool.false_eq_true, ite_self, n25, n20, n24, n100, kk1 C, RS.kk H, c_isGauge C W.1, c_isTerm C W.1, c_isFarm C W.1, c_isSeason, c_isPlace, r_isGauge H W.1, r_isTerm H W.1, r_isFarm H W.1, r_isSeason, r_isWeek, r_isPlace, r_isSheet, ci1, ri1, ci2, ri2, ci3, ri3, ci4, ri4, ci5, ri5, ci11, ri11, ci16, ri16, ci98, ri98, ci99, ri99, ci198, ri198, ci9999, ri9999, oa, ob, oc], I⟩
  rcases okC d (n := 4) (by decide) with od | ⟨od, k, hk, rfl⟩
  · exact ⟨-9223372036854775808, h, by simp only [f_X11_trend, f_X11_isOffer, obs, b10, b01, bm, if_true_, if_false_, eq_self, not_true_eq_false, not_false_eq_true, true_or, or_true, or_false, false_or, and_true, true_and, and_false, false_and, or_self, and_self, Bool.false_eq_true, ite_self, n25, n20, n24, n100, kk1 C, RS.kk H, c_isGauge C W.1, c_isTerm C W.1, c_isFarm C W.1, c_isSeason, c_isPlace, r_isGauge H W.1, r_isTerm H W.1, r_isFarm H W.1, r_isSeason, r_isWeek, r_isPlace, r_isSheet, ci1, ri1, ci2, ri2, ci3, ri3, ci4, ri4, ci5, ri5, ci11, ri11, ci16, ri16, ci98, ri98, ci99, ri99, ci198, ri198, ci9999, ri9999, oa, ob, oc, od], by simp only [f_X12_trend, f_X12_isAsked, obs, b10, b01, bm, if_true_, if_false_, eq_self, not_true_eq_false, not_false_eq_true, true_or, or_true, or_false, false_or, and_true, true_and, and_false, false_and, or_self, and_self, Bool.false_eq_true, ite_self, n25, n20, n24, n100, kk1 C, RS.kk H, c_isGauge C W.1, c_isTerm C W.1, c_isFarm C W.1, c_isSeason, c_isPlace, r_isGauge H W.1, r_isTerm H W.1, r_isFarm H W.1, r_isSeason, r_isWeek, r_isPlace, r_isSheet, ci1, ri1, ci2, ri2, ci3, ri3, ci4, ri4, ci5, ri5, ci11, ri11, ci16, ri16, ci98, ri98, ci99, ri99, ci198, ri198, ci9999, ri9999, oa, ob, oc, od], I⟩
  rcases okC e (n := 2) (by decide) with oe | ⟨oe, w, hw, rfl⟩
  · exact ⟨-9223372036854775808, h, by simp only [f_X11_trend, f_X11_isOffer, obs, b10, b01, bm, if_true_, if_false_, eq_self, not_true_eq_false, not_false_eq_true, true_or, or_true, or_false, false_or, and_true, true_and, and_false, false_and, or_self, and_self, Bool.false_eq_true, ite_self, n25, n20, n24, n100, kk1 C, RS.kk H, c_isGauge C W.1, c_isTerm C W.1, c_isFarm C W.1, c_isSeason, c_isPlace, r_isGauge H W.1, r_isTerm H W.1, r_isFarm H W.1, r_isSeason, r_isWeek, r_isPlace, r_isSheet, ci1, ri1, ci2, ri2, ci3, ri3, ci4, ri4, ci5, ri5, ci11, ri11, ci16, ri16, ci98, ri98, ci99, ri99, ci198, ri198, ci9999, ri9999, oa, ob, oc, od, oe], by simp only [f_X12_trend, f_X12_isAsked, obs, b10, b01, bm, if_true_, if_false_, eq_self, not_true_eq_false, not_false_eq_true, true_or, or_true, or_false, false_or, and_true, true_and, and_false, false_and, or_self, and_self, Bool.false_eq_true, ite_self, n25, n20, n24, n100, kk1 C, RS.kk H, c_isGauge C W.1, c_isTerm C W.1, c_isFarm C W.1, c_isSeason, c_isPlace, r_isGauge H W.1, r_isTerm H W.1, r_isFarm H W.1, r_isSeason, r_isWeek, r_isPlace, r_isSheet, ci1, ri1, ci2, ri2, ci3, ri3, ci4, ri4, ci5, ri5, ci11, ri11, ci16, ri16, ci98, ri98, ci99, ri99, ci198, ri198, ci9999, ri9999, oa, ob, oc, od, oe], I⟩
  obtain ⟨h1, e1, S1, hr⟩ := c_gatherPays (N := N) C W ht hg hp hk (by omega)
  have I' := I.scr S1
  have H' := I'.2.1
  have C' := I'.1
  have r1 := r_trend (N := N) H' W (w := nI w) ht hg hp hk (by omega)
  have x1 : (trX σ g t p k).1 = knN σ g := (trX_1 (σ := σ)).1
  have x3 : (trX σ g t p k).2.2.1 = paidN σ g t p k := (trX_1 (σ := σ)).2
  obtain ⟨i1, i2, i3, i4, i5, i6, i7⟩ := trI_X W (g := g) (k := k) ht hp
  have hkn := knN_le (σ := σ) (g := g)
  by_cases q : 2 ≤ knN σ g
  · rw [if_pos (by rw [x1]; exact q)] at r1
    have cl : f_X11_trend_b59 N N h1 1 (nI w) (nI (knN σ g)) 0 0 0 0 = (f_X11_partOf h1 N (lN ((trX σ g t p k).1 * (trX σ g t p k).2.2.2.1) - lN ((trX σ g t p k).2.1 * (trX σ g t p k).2.2.1)) (lN ((trX σ g t p k).1 * (trX σ g t p k).2.2.2.2) - lN ((trX σ g t p k).2.1 * (trX σ g t p k).2.1)) (nI w)).bind fun v => some (v, h1) := by
      have hx : ∀ {s : Nat}, s < 16 → xia h1 28 (nI s) = some (psR σ g t p k s) := fun hs => xia_of (kk28 C') (kl C' (by decide)) hs (by decide) (hr _ hs)
      rw [x1, x3]
      refine lpB (fun n i (x : Nat × Nat × Nat × Nat × Nat) => f_X11_trend_b59 N n h1 1 (nI w) (nI (knN σ g)) (lN x.2.1) (lN x.2.2.2.2) (lN x.2.2.2.1) (nI i)) (trS σ g t p k) 16 (fun x => (f_X11_partOf h1 N (lN (knN σ g * x.2.2.2.1) - lN (x.2.1 * paidN σ g t p k)) (lN (knN σ g * x.2.2.2.2) - lN (x.2.1 * x.2.1)) (nI w)).bind fun v => some (v, h1)) ?_ ?_ (m := 16) (i := 0) (a := (0, 0, 0, 0, 0)) rfl (by omega)
      · intro n x
        simp (disch := first | omega | assumption) only [f_X11_trend_b59, f_X11_trend_b59_body, obs, b10, b01, bm, if_true_, if_false_, eq_self, not_true_eq_false, not_false_eq_true, true_or, or_true, or_false, false_or, and_true, true_and, and_false, false_and, or_self, and_self, Bool.false_eq_true, ite_self, n25, n20, n24, n100, lt16, nI_leI, Nat.le_refl, c_sumOfPays C' W hr, nI_l, lN_mul]
      · intro n i x hi
        have hn : ¬ 16 ≤ i := by omega
        have hP := (payN_ok W (g := g) (k := k) (s := i) ht hp).1
        have hne := psR_ne W (g := g) (k := k) (s := i) ht hp
        have ii : i * i ≤ 15 * 15 := Nat.mul_le_mul (by omega) (by omega)
        rcases q : knowO σ g i
        · have q1 : psR σ g t p k i = -1 := by rw [hne]; exact q
          simp (disch := omega) only [f_X11_trend_b59, f_X11_trend_b59_body, f_X11_trend_b116, obs, b10, b01, bm, if_true_, if_false_, eq_self, not_true_eq_false, not_false_eq_true, true_or, or_true, or_false, false_or, and_true, true_and, and_false, false_and, or_self, and_self, Bool.false_eq_true, ite_self, n25, n20, n24, n100, lt16, nI_leI, hn, kr1_18 C', hx, q1, trS, q, nI_1]
        · have q1 : psR σ g t p k i = nI (payN σ g t p k i) := by unfold psR; rw [q]; rfl
          simp (disch := omega) only [f_X11_trend_b59, f_X11_trend_b59_body, f_X11_trend_b116, obs, b10, b01, bm, if_true_, if_false_, eq_self, not_true_eq_false, not_false_eq_true, true_or, or_true, or_false, false_or, and_true, true_and, and_false, false_and, or_self, and_self, Bool.false_eq_true, ite_self, n25, n20, n24, n100, lt16, nI_leI, hn, kr1_18 C', hx, q1, nI_negF, trS, q, nI_l, nI_mul, lN_mul, lN_add, nI_1]
    generalize trX σ g t p k = x at x1 x3 i1 i2 i3 i4 i5 i6 i7 r1 cl
    rw [← x1] at q
    have b1 : x.1 * x.2.2.2.1 ≤ 16 * (149985 * 16) := Nat.mul_le_mul (by omega) (by omega)
    have b2 : x.2.1 * x.2.2.1 ≤ 256 * (9999 * 16) := Nat.mul_le_mul (Nat.le_trans i2 (by omega)) (by omega)
    have b3 : x.1 * x.2.2.2.2 ≤ 16 * (225 * 16) := Nat.mul_le_mul (by omega) (by omega)
    obtain ⟨A, hA, eA⟩ := absS (a := x.1 * x.2.2.2.1) (b := x.2.1 * x.2.2.1) (by omega) (by omega)
    rw [lN_sub (a := x.1 * x.2.2.2.2) (b := x.2.1 * x.2.1) (by omega)] at r1 cl
    obtain ⟨v, v1, v2⟩ := part_eq (N := N) (h := h1) (h' := h1) (p2 := nI w) eA hA (show 0 < x.1 * x.2.2.2.2 - x.2.1 * x.2.1 by omega) (by omega) (by omega)
    rw [v1, obs] at cl
    rw [v2, obs] at r1
    have q' : 2 ≤ knN σ g := by rw [← x1]; exact q
    refine ⟨v, h1, ?_, ?_, I'⟩
    · simp (disch := omega) only [f_X11_trend, f_X11_isOffer, obs, b10, b01, bm, if_true_, if_false_, eq_self, not_true_eq_false, not_false_eq_true, true_or, or_true, or_false, false_or, and_true, true_and, and_false, false_and, or_self, and_self, Bool.false_eq_true, ite_self, n25, n20, n24, n100, kk1 C, RS.kk H, c_isGauge C W.1, c_isTerm C W.1, c_isFarm C W.1, c_isSeason, c_isPlace, r_isGauge H W.1, r_isTerm H W.1, r_isFarm H W.1, r_isSeason, r_isWeek, r_isPlace, r_isSheet, ci1, ri1, ci2, ri2, ci3, ri3, ci4, ri4, ci5, ri5, ci11, ri11, ci16, ri16, ci98, ri98, ci99, ri99, ci198, ri198, ci9999, ri9999, oa, ob, oc, od, oe, e1, lt2, nI_leI, q', cl]
    · simp (disch := omega) only [f_X12_trend, f_X12_isAsked, obs, b10, b01, bm, if_true_, if_false_, eq_self, not_true_eq_false, not_false_eq_true, true_or, or_true, or_false, false_or, and_true, true_and, and_false, false_and, or_self, and_self, Bool.false_eq_true, ite_self, n25, n20, n24, n100, RS.kk H', ri1, ri3, ri5, r_isTerm H' W.1, r_isGauge H' W.1, oa, ob, oc, od, oe, r1]
  · rw [if_neg (by rw [x1]; exact q)] at r1
    refine ⟨-9223372036854775808, h1, ?_, ?_, I'⟩
    · simp (disch := omega) only [f_X11_trend, f_X11_isOffer, obs, b10, b01, bm, if_true_, if_false_, eq_self, not_true_eq_false, not_false_eq_true, true_or, or_true, or_false, false_or, and_true, true_and, and_false, false_and, or_self, and_self, Bool.false_eq_true, ite_self, n25, n20, n24, n100, kk1 C, RS.kk H, c_isGauge C W.1, c_isTerm C W.1, c_isFarm C W.1, c_isSeason, c_isPlace, r_isGauge H W.1, r_isTerm H W.1, r_isFarm H W.1, r_isSeason, r_isWeek, r_isPlace, r_isSheet, ci1, ri1, ci2, ri2, ci3, ri3, ci4, ri4, ci5, ri5, ci11, ri11, ci16, ri16, ci98, ri98, ci99, ri99, ci198, ri198, ci9999, ri9999, oa, ob, oc, od, oe, e1, lt2, nI_leI, q]
    · simp (disch := omega) only [f_X12_trend, f_X12_isAsked, obs, b10, b01, bm, if_true_, if_false_, eq_self, not_true_eq_false, not_false_eq_true, true_or, or_true, or_false, false_or, and_true, true_and, and_false, false_and, or_self, and_self, Bool.false_eq_true, ite_self, n25, n20, n24, n100, RS.kk H', ri1, ri3, ri5, r_isTerm H' W.1, r_isGauge H' W.1, oa, ob, oc, od, oe, r1]
/-! share -/
theorem lgz {x : Int64} : (lg_cmp x 0 = 0) = (x = 0) := by
  apply propext
  unfold lg_cmp
  by_cases q1 : x > 0
  · rw [if_pos q1]
    exact ⟨fun e => absurd e (by decide), fun e => by rw [e] at q1; exact absurd q1 (by decide)⟩
  · rw [if_neg q1]
    by_cases q2 : x = 0
    · rw [if_pos q2]; exact ⟨fun _ => q2, fun _ => rfl⟩
    · rw [if_neg q2]; exact ⟨fun e => absurd e (by decide), fun e => absurd e q2⟩
def dgS (σ : SG) (gv : Int32) (s f : Nat) (x : Int64) : Int64 := if σ.2 32 f = gv then x + (dueO σ (R0 σ) (G0 σ) f s).toInt64 else x
def wgL (σ : SG) (s : Nat) (r : Int32) (f : Nat) : Int64 := if r = 0 then 1 else if r = 1 then (σ.2 30 f).toInt64 else match lookO σ f s with
  | none => 0
  | some l => (σ.2 30 f * σ.2 44 l).toInt64
def waS (σ : SG) (gv : Int32) (s : Nat) (r : Int32) (f : Nat) (x : Int64) : Int64 := if σ.2 32 f = gv then x + wgL σ s r f else x
def vtS (σ : SG) (gv r : Int32) (f : Nat) (x : Nat) : Nat := if σ.2 32 f = gv ∧ σ.2 33 f = r then x + 1 else x
def votN (σ : SG) (gv r : Int32) : Nat := itr (vtS σ gv r) 0 (cn σ 26) 0
def waX (σ : SG) (gv : Int32) (s : Nat) (r : Int32) : Int64 := itr (waS σ gv s r) 0 (cn σ 26) 0
def dgX (σ : SG) (gv : Int32) (s : Nat) : Int64 := itr (dgS σ gv s) 0 (cn σ 26) 0
theorem votN_le {gv r : Int32} : votN σ gv r ≤ cn σ 26 := by
  have := itr_le (st := vtS σ gv r) (c := 1) (fun j x => by unfold vtS; split <;> omega) (m := cn σ 26) (i := 0) (a := 0)
  unfold votN
  omega
theorem c_weightOf (C : CS h σ tr u) (W : WV σ) {f s : Nat} {r : Int32} (hf : f < cn σ 26) (hN : 100 < N) : f_X11_weightOf h N 1 (300 + f) (nI s) r = some (wgL σ s r f) := by
  have hF := W.1.f
  have hL := W.1.l
  unfold wgL
  by_cases q0 : r = 0
  · simp only [f_X11_weightOf, obs, b10, b01, bm, if_true_, if_false_, eq_self, not_true_eq_false, not_false_eq_true, true_or, or_true, or_false, false_or, and_true, true_and, and_false, false_and, or_self, and_self, Bool.false_eq_true, ite_self, n25, n20, n24, n100, kk1 C, q0]
  by_cases q1 : r = 1
  · simp (disch := omega) only [f_X11_weightOf, obs, b10, b01, bm, if_true_, if_false_, eq_self, not_true_eq_false, not_false_eq_true, true_or, or_true, or_false, false_or, and_true, true_and, and_false, false_and, or_self, and_self, Bool.false_eq_true, ite_self, n25, n20, n24, n100, kk1 C, q1, kf300_3 C]
  rcases e : lookO σ f s with _ | l
  · simp (disch := omega) only [f_X11_weightOf, obs, b10, b01, bm, if_true_, if_false_, eq_self, not_true_eq_false, not_false_eq_true, true_or, or_true, or_false, false_or, and_true, true_and, and_false, false_and, or_self, and_self, Bool.false_eq_true, ite_self, n25, n20, n24, n100, kk1 C, q0, q1, kr1_9 C, kf300_0 C, c_find19 C W.1, e, oI_n]
  · have hl := lookO_lt e
    simp (disch := omega) only [f_X11_weightOf, obs, b10, b01, bm, if_true_, if_false_, eq_self, not_true_eq_false, not_false_eq_true, true_or, or_true, or_false, false_or, and_true, true_and, and_false, false_and, or_self, and_self, Bool.false_eq_true, ite_self, n25, n20, n24, n100, kk1 C, q0, q1, kr1_9 C, kf300_0 C, kf300_3 C, c_find19 C W.1, e, oI_s, nI_negF, ka19_2 C]
theorem r_weight (H : RS h σ) (W : WV σ) {f s : Nat} {r : Int32} (hf : f < cn σ 26) (hN : 100 < N) : f_X12_weight h N 100 (nI f) (nI s) r = some (wgL σ s r f) := by
  have hF := W.1.f
  have hL := W.1.l
  unfold wgL
  by_cases q0 : r = 0
  · simp (disch := omega) only [f_X12_weight, obs, b10, b01, bm, if_true_, if_false_, eq_self, not_true_eq_false, not_false_eq_true, true_or, or_true, or_false, false_or, and_true, true_and, and_false, false_and, or_self, and_self, Bool.false_eq_true, ite_self, n25, n20, n24, n100, RS.kk H, r_lookOf H W.1, q0]
  by_cases q1 : r = 1
  · simp (disch := omega) only [f_X12_weight, obs, b10, b01, bm, if_true_, if_false_, eq_self, not_true_eq_false, not_false_eq_true, true_or, or_true, or_false, false_or, and_true, true_and, and_false, false_and, or_self, and_self, Bool.false_eq_true, ite_self, n25, n20, n24, n100, RS.kk H, r_lookOf H W.1, q1, rg30 H, ra30 H]
  rcases e : lookO σ f s with _ | l
  · simp (disch := omega) only [f_X12_weight, obs, b10, b01, bm, if_true_, if_false_, eq_self, not_true_eq_false, not_false_eq_true, true_or, or_true, or_false, false_or, and_true, true_and, and_false, false_and, or_self, and_self, Bool.false_eq_true, ite_self, n25, n20, n24, n100, RS.kk H, r_lookOf H W.1, q0, q1, e, oI_n]
  · have hl := lookO_lt e
    obtain ⟨x, hx, ex⟩ := wv30 W hf
    obtain ⟨y, hy, ey⟩ := wv44 W hl
    have hm : x * y ≤ 99 * 9999 := Nat.mul_le_mul (by omega) (by omega)
    have em : (σ.2 30 f).toInt64 * (σ.2 44 l).toInt64 = (σ.2 30 f * σ.2 44 l).toInt64 := by rw [ex, ey, nI_mul, nI_l (by omega), nI_l (by omega), nI_l (by omega), lN_mul]
    simp (disch := omega) only [f_X12_weight, obs, b10, b01, bm, if_true_, if_false_, eq_self, not_true_eq_false, not_false_eq_true, true_or, or_true, or_false, false_or, and_true, true_and, and_false, false_and, or_self, and_self, Bool.false_eq_true, ite_self, n25, n20, n24, n100, RS.kk H, r_lookOf H W.1, q0, q1, e, oI_s, nI_negF, rg30 H, ra30 H, rg44 H, ra44 H, em]
theorem c_weightG (C : CS h σ tr u) (W : WV σ) {s : Nat} {gv r : Int32} (hN : 100 < N) : f_X11_weightOfGroup h N 1 gv (nI s) r = some (waX σ gv s r) := by
  have hF := W.1.f
  unfold f_X11_weightOfGroup
  rw [if_pos (kk1 C)]
  refine lpB (fun n i x => f_X11_weightOfGroup_b6 h N n 1 gv (nI s) r x (nI i)) (waS σ gv s r) (cn σ 26) (fun x => some x) ?_ ?_ (m := cn σ 26) (i := 0) (by omega) (by omega)
  · intro n x
    simp (disch := omega) only [f_X11_weightOfGroup_b6, f_X11_weightOfGroup_b6_body, obs, b10, b01, bm, if_true_, if_false_, eq_self, not_true_eq_false, not_false_eq_true, true_or, or_true, or_false, false_or, and_true, true_and, and_false, false_and, or_self, and_self, Bool.false_eq_true, ite_self, n25, n20, n24, n100, kr1_2 C, kz12 C, hF.1, nI_leI, Nat.le_refl]
  · intro n i x hi
    have hn : ¬ cn σ 26 ≤ i := by omega
    by_cases q : σ.2 32 i = gv <;> simp (disch := omega) only [f_X11_weightOfGroup_b6, f_X11_weightOfGroup_b6_body, f_X11_weightOfGroup_b60, obs, b10, b01, bm, if_true_, if_false_, eq_self, not_true_eq_false, not_false_eq_true, true_or, or_true, or_false, false_or, and_true, true_and, and_false, false_and, or_self, and_self, Bool.false_eq_true, ite_self, n25, n20, n24, n100, kr1_2 C, kz12 C, hF.1, nI_leI, hn, kg12 C W.1, kc300 C, kf300_7 C, q, c_weightOf C W, waS, nI_1]
theorem c_votes (C : CS h σ tr u) (W : WV σ) {gv r : Int32} (hN : 100 < N) : f_X11_votesFor h N 1 gv r = some (nI (votN σ gv r)) := by
  have hF := W.1.f
  unfold f_X11_votesFor
  rw [if_pos (kk1 C)]
  refine lpB (fun n i x => f_X11_votesFor_b5 h N n 1 gv r (nI x) (nI i)) (vtS σ gv r) (cn σ 26) (fun x => some (nI x)) ?_ ?_ (m := cn σ 26) (i := 0) (a := 0) (by omega) (by omega)
  · intro n x
    simp (disch := omega) only [f_X11_votesFor_b5, f_X11_votesFor_b5_body, obs, b10, b01, bm, if_true_, if_false_, eq_self, not_true_eq_false, not_false_eq_true, true_or, or_true, or_false, false_or, and_true, true_and, and_false, false_and, or_self, and_self, Bool.false_eq_true, ite_self, n25, n20, n24, n100, kr1_2 C, kz12 C, hF.1, nI_leI, Nat.le_refl]
  · intro n i x hi
    have hn : ¬ cn σ 26 ≤ i := by omega
    by_cases q : σ.2 32 i = gv <;> by_cases q2 : σ.2 33 i = r <;> simp (disch := omega) only [f_X11_votesFor_b5, f_X11_votesFor_b5_body, f_X11_votesFor_b58, obs, b10, b01, bm, if_true_, if_false_, eq_self, not_true_eq_false, not_false_eq_true, true_or, or_true, or_false, false_or, and_true, true_and, and_false, false_and, or_self, and_self, Bool.false_eq_true, ite_self, n25, n20, n24, n100, kr1_2 C, kz12 C, hF.1, nI_leI, hn, kg12 C W.1, kc300 C, kf300_7 C, kf300_8 C, q, q2, vtS, nI_1]
theorem r_votes (H : RS h σ) (W : WV σ) {gv r : Int32} (hN : 100 < N) : f_X12_votes h N 100 gv r = some (nI (votN σ gv r)) := by
  have hF := W.1.f
  unfold f_X12_votes
  rw [if_pos H.1]
  refine lpB (fun n i x => f_X12_votes_b5 h N n 100 gv r (nI x) (nI i)) (vtS σ gv r) (cn σ 26) (fun x => some (nI x)) ?_ ?_ (m := cn σ 26) (i := 0) (a := 0) (by omega) (by omega)
  · intro n x
    simp (disch := omega) only [f_X12_votes_b5, f_X12_votes_b5_body, obs, b10, b01, bm, if_true_, if_false_, eq_self, not_true_eq_false, not_false_eq_true, true_or, or_true, or_false, false_or, and_true, true_and, and_false, false_and, or_self, and_self, Bool.false_eq_true, ite_self, n25, n20, n24, n100, RS.gi H, hF.1, nI_leI, Nat.le_refl]
  · intro n i x hi
    have hn : ¬ cn σ 26 ≤ i := by omega
    by_cases q : σ.2 32 i = gv <;> by_cases q2 : σ.2 33 i = r <;> simp (disch := omega) only [f_X12_votes_b5, f_X12_votes_b5_body, f_X12_votes_b41, f_X12_votes_b42, obs, b10, b01, bm, if_true_, if_false_, eq_self, not_true_eq_false, not_false_eq_true, true_or, or_true, or_false, false_or, and_true, true_and, and_false, false_and, or_self, and_self, Bool.false_eq_true, ite_self, n25, n20, n24, n100, RS.gi H, hF.1, nI_leI, hn, rg32 H, ra32 H, rg33 H, ra33 H, q, q2, vtS, Int32.add_zero, nI_1]
def rlA (σ : SG) (gv : Int32) : Nat := if votN σ gv 1 ≤ votN σ gv 0 then 0 else 1
def rlN (σ : SG) (gv : Int32) : Nat := if votN σ gv 2 ≤ votN σ gv (nI (rlA σ gv)) then rlA σ gv else 2
theorem c_ruleOf (C : CS h σ tr u) (W : WV σ) {gv : Int32} (hN : 100 < N) : f_X11_ruleOf h N 1 gv = some (nI (rlN σ gv)) := by
  have hF := W.1.f
  obtain ⟨M, rfl⟩ : ∃ M, N = M + 4 := ⟨N - 4, by omega⟩
  have b0 := votN_le (σ := σ) (gv := gv) (r := 0)
  have b1 := votN_le (σ := σ) (gv := gv) (r := 1)
  have b2 := votN_le (σ := σ) (gv := gv) (r := 2)
  have v0 := c_votes (N := M + 4) C W (gv := gv) (r := 0) hN
  have v1 := c_votes (N := M + 4) C W (gv := gv) (r := 1) hN
  have v2 := c_votes (N := M + 4) C W (gv := gv) (r := 2) hN
  have z0 : ((3 : Int32) ≤ 0) = False := by decide
  have z1 : ((3 : Int32) ≤ 1) = False := by decide
  have z2 : ((3 : Int32) ≤ 2) = False := by decide
  have z3 : ((3 : Int32) ≤ 3) = True := by decide
  have a0 : (0 : Int32) + 1 = 1 := by decide
  have a1 : (1 : Int32) + 1 = 2 := by decide
  have a2 : (2 : Int32) + 1 = 3 := by decide
  have st : ∀ n x2 x3 x4, f_X11_ruleOf_b7 h (M + 4) (n + 1) 1 gv x2 x3 x4 = f_X11_ruleOf_b7_body h (M + 4) (f_X11_ruleOf_b7 h (M + 4) n) 1 gv x2 x3 x4 := fun _ _ _ _ => rfl
  have k0 : f_X11_ruleOf_b7 h (M + 4) (M + 4) 1 gv 0 0 0 = f_X11_ruleOf_b7 h (M + 4) (M + 3) 1 gv 0 (nI (votN σ gv 0)) 1 := by
    rw [st]
    by_cases q : votN σ gv 0 = 0
    · have q' : nI (votN σ gv 0) ≤ 0 := by rw [q]; decide
      have q2 : nI (votN σ gv 0) = 0 := by rw [q]; rfl
      simp only [f_X11_ruleOf_b7_body, f_X11_ruleOf_b34, obs, b10, b01, bm, if_true_, if_false_, eq_self, not_true_eq_false, not_false_eq_true, true_or, or_true, or_false, false_or, and_true, true_and, and_false, false_and, or_self, and_self, Bool.false_eq_true, ite_self, n25, n20, n24, n100, z0, v0, q', a0]
      rw [q2]
    · have q' : ¬ nI (votN σ gv 0) ≤ 0 := fun z => q (by have := (nI_leI (a := votN σ gv 0) (b := 0) (by omega) (by omega)).mp z; omega)
      simp only [f_X11_ruleOf_b7_body, f_X11_ruleOf_b34, obs, b10, b01, bm, if_true_, if_false_, eq_self, not_true_eq_false, not_false_eq_true, true_or, or_true, or_false, false_or, and_true, true_and, and_false, false_and, or_self, and_self, Bool.false_eq_true, ite_self, n25, n20, n24, n100, z0, v0, q', a0]
  have k1 : f_X11_ruleOf_b7 h (M + 4) (M + 3) 1 gv 0 (nI (votN σ gv 0)) 1 = f_X11_ruleOf_b7 h (M + 4) (M + 2) 1 gv (nI (rlA σ gv)) (nI (votN σ gv (nI (rlA σ gv)))) 2 := by
    rw [st]
    unfold rlA
    by_cases q : votN σ gv 1 ≤ votN σ gv 0
    · simp (disch := omega) only [f_X11_ruleOf_b7_body, f_X11_ruleOf_b34, obs, b10, b01, bm, if_true_, if_false_, eq_self, not_true_eq_false, not_false_eq_true, true_or, or_true, or_false, false_or, and_true, true_and, and_false, false_and, or_self, and_self, Bool.false_eq_true, ite_self, n25, n20, n24, n100, z1, v1, nI_leI, q, a1, il0]
    · simp (disch := omega) only [f_X11_ruleOf_b7_body, f_X11_ruleOf_b34, obs, b10, b01, bm, if_true_, if_false_, eq_self, not_true_eq_false, not_false_eq_true, true_or, or_true, or_false, false_or, and_true, true_and, and_false, false_and, or_self, and_self, Bool.false_eq_true, ite_self, n25, n20, n24, n100, z1, v1, nI_leI, q, a1, il1]
  have b3 := votN_le (σ := σ) (gv := gv) (r := nI (rlA σ gv))
  have k2 : f_X11_ruleOf_b7 h (M + 4) (M + 2) 1 gv (nI (rlA σ gv)) (nI (votN σ gv (nI (rlA σ gv)))) 2 = some (nI (rlN σ gv)) := by
    rw [st]
    unfold rlN
    by_cases q : votN σ gv 2 ≤ votN σ gv (nI (rlA σ gv))
    · simp (disch := omega) only [f_X11_ruleOf_b7_body, f_X11_ruleOf_b7, f_X11_ruleOf_b34, obs, b10, b01, bm, if_true_, if_false_, eq_self, not_true_eq_false, not_false_eq_true, true_or, or_true, or_false, false_or, and_true, true_and, and_false, false_and, or_self, and_self, Bool.false_eq_true, ite_self, n25, n20, n24, n100, z2, z3, v2, nI_leI, q, a2]
    · simp (disch := omega) only [f_X11_ruleOf_b7_body, f_X11_ruleOf_b7, f_X11_ruleOf_b34, obs, b10, b01, bm, if_true_, if_false_, eq_self, not_true_eq_false, not_false_eq_true, true_or, or_true, or_false, false_or, and_true, true_and, and_false, false_and, or_self, and_self, Bool.false_eq_true, ite_self, n25, n20, n24, n100, z2, z3, v2, nI_leI, q, a2, il2]
  unfold f_X11_ruleOf
  rw [if_pos (kk1 C), k0, k1, k2]
theorem r_ruleL (H : RS h σ) (W : WV σ) {gv p1 p2 : Int32} (hN : 100 < N) : f_X12_share_b44 h N N 100 p1 p2 gv 0 1 = f_X12_share_b91 h N N 100 p1 p2 gv (nI (rlN σ gv)) 0 0 0 := by
  have hF := W.1.f
  obtain ⟨M, rfl⟩ : ∃ M, N = M + 4 := ⟨N - 4, by omega⟩
  have b0 := votN_le (σ := σ) (gv := gv) (r := 0)
  have b1 := votN_le (σ := σ) (gv := gv) (r := 1)
  have b2 := votN_le (σ := σ) (gv := gv) (r := 2)
  have v0 := r_votes (N := M + 4) H W (gv := gv) (r := 0) hN
  have v1 := r_votes (N := M + 4) H W (gv := gv) (r := 1) hN
  have v2 := r_votes (N := M + 4) H W (gv := gv) (r := 2) hN
  have v3 := r_votes (N := M + 4) H W (gv := gv) (r := nI (rlA σ gv)) hN
  have b3 := votN_le (σ := σ) (gv := gv) (r := nI (rlA σ gv))
  have z1 : ((3 : Int32) ≤ 1) = False := by decide
  have z2 : ((3 : Int32) ≤ 2) = False := by decide
  have z3 : ((3 : Int32) ≤ 3) = True := by decide
  have a1 : (1 : Int32) + 1 = 2 := by decide
  have a2 : (2 : Int32) + 1 = 3 := by decide
  have st : ∀ n x4 x5, f_X12_share_b44 h (M + 4) (n + 1) 100 p1 p2 gv x4 x5 = f_X12_share_b44_body h (M + 4) (f_X12_share_b44 h (M + 4) n) 100 p1 p2 gv x4 x5 := fun _ _ _ => rfl
  have k1 : f_X12_share_b44 h (M + 4) (M + 4) 100 p1 p2 gv 0 1 = f_X12_share_b44 h (M + 4) (M + 3) 100 p1 p2 gv (nI (rlA σ gv)) 2 := by
    rw [st]
    unfold rlA
    by_cases q : votN σ gv 1 ≤ votN σ gv 0
    · simp (disch := omega) only [f_X12_share_b44_body, f_X12_share_b74, obs, b10, b01, bm, if_true_, if_false_, eq_self, not_true_eq_false, not_false_eq_true, true_or, or_true, or_false, false_or, and_true, true_and, and_false, false_and, or_self, and_self, Bool.false_eq_true, ite_self, n25, n20, n24, n100, z1, v0, v1, nI_leI, q, a1, il0]
    · simp (disch := omega) only [f_X12_share_b44_body, f_X12_share_b74, obs, b10, b01, bm, if_true_, if_false_, eq_self, not_true_eq_false, not_false_eq_true, true_or, or_true, or_false, false_or, and_true, true_and, and_false, false_and, or_self, and_self, Bool.false_eq_true, ite_self, n25, n20, n24, n100, z1, v0, v1, nI_leI, q, a1, il1]
  have k2 : f_X12_share_b44 h (M + 4) (M + 3) 100 p1 p2 gv (nI (rlA σ gv)) 2 = f_X12_share_b91 h (M + 4) (M + 4) 100 p1 p2 gv (nI (rlN σ gv)) 0 0 0 := by
    rw [st]
    unfold rlN
    by_cases q : votN σ gv 2 ≤ votN σ gv (nI (rlA σ gv))
    · simp (disch := omega) only [f_X12_share_b44_body, f_X12_share_b44, f_X12_share_b74, obs, b10, b01, bm, if_true_, if_false_, eq_self, not_true_eq_false, not_false_eq_true, true_or, or_true, or_false, false_or, and_true, true_and, and_false, false_and, or_self, and_self, Bool.false_eq_true, ite_self, n25, n20, n24, n100, z2, z3, v2, v3, nI_leI, q, a2]
    · simp (disch := omega) only [f_X12_share_b44_body, f_X12_share_b44, f_X12_share_b74, obs, b10, b01, bm, if_true_, if_false_, eq_self, not_true_eq_false, not_false_eq_true, true_or, or_true, or_false, false_or, and_true, true_and, and_false, false_and, or_self, and_self, Bool.false_eq_true, ite_self, n25, n20, n24, n100, z2, z3, v2, v3, nI_leI, q, a2, il2]
  rw [k1, k2]
theorem c_dueG (C : CS h σ tr u) (W : WV σ) {s : Nat} {gv : Int32} (hs : s < 16) (hN : 1000 < N) : ∃ h', f_X11_dueOfGroup h N 1 gv (nI s) = some (dgX σ gv s, h') ∧ SCR h h' := by
  have hF := W.1.f
  have hTl := W.1.tl
  unfold f_X11_dueOfGroup
  rw [if_pos (kk1 C)]
  refine (lpS (σ := AH) (α := Int64) (fun n i h x => f_X11_dueOfGroup_b5 N n h 1 gv (nI s) x (nI i)) (dgS σ gv s) (cn σ 26) (fun h' x => some (x, h')) (fun i h' _ => SCR h h') ?_ ?_ (cn σ 26) N 0 h 0 (by omega) (by omega) SCR.refl).elim (fun h' e => ⟨h', e.1, e.2⟩)
  · intro n h' x S
    have C' := C.scr S
    simp (disch := omega) only [f_X11_dueOfGroup_b5, f_X11_dueOfGroup_b5_body, obs, b10, b01, bm, if_true_, if_false_, eq_self, not_true_eq_false, not_false_eq_true, true_or, or_true, or_false, false_or, and_true, true_and, and_false, false_and, or_self, and_self, Bool.false_eq_true, ite_self, n25, n20, n24, n100, kr1_2 C', kz12 C', hF.1, nI_leI, Nat.le_refl]
  · intro n i h' x hi S
    have C' := C.scr S
    have hn : ¬ cn σ 26 ≤ i := by omega
    by_cases q : σ.2 32 i = gv
    · obtain ⟨h2, e2, S2, -⟩ := c_dueOf (N := N) (kk := cn σ 7) C' W hi hs (by omega) hN
      refine ⟨h2, ?_, S.trans S2⟩
      simp (disch := omega) only [f_X11_dueOfGroup_b5, f_X11_dueOfGroup_b5_body, f_X11_dueOfGroup_b61, obs, b10, b01, bm, if_true_, if_false_, eq_self, not_true_eq_false, not_false_eq_true, true_or, or_true, or_false, false_or, and_true, true_and, and_false, false_and, or_self, and_self, Bool.false_eq_true, ite_self, n25, n20, n24, n100, kr1_2 C', kz12 C', hF.1, nI_leI, hn, kg12 C' W.1, kc300 C', kf300_7 C', q, c_now C' W.1, e2, dgS, nI_1]
    · refine ⟨h', ?_, S⟩
      simp (disch := omega) only [f_X11_dueOfGroup_b5, f_X11_dueOfGroup_b5_body, f_X11_dueOfGroup_b61, obs, b10, b01, bm, if_true_, if_false_, eq_self, not_true_eq_false, not_false_eq_true, true_or, or_true, or_false, false_or, and_true, true_and, and_false, false_and, or_self, and_self, Bool.false_eq_true, ite_self, n25, n20, n24, n100, kr1_2 C', kz12 C', hF.1, nI_leI, hn, kg12 C' W.1, kc300 C', kf300_7 C', q, dgS, nI_1]
theorem r_sumL (H : RS h σ) (W : WV σ) {s : Nat} {gv r p1 : Int32} (hs : s < 16) (hN : 100 < N) : f_X12_share_b91 h N N 100 p1 (nI s) gv r 0 0 0 = f_X12_share_b91 h N 1 100 p1 (nI s) gv r (dgX σ gv s) (waX σ gv s r) (nI (cn σ 26)) := by
  have hF := W.1.f
  have key : ∀ m i (x : Int64 × Int64), itr (fun f (x : Int64 × Int64) => (dgS σ gv s f x.1, waS σ gv s r f x.2)) i m x = (itr (dgS σ gv s) i m x.1, itr (waS σ gv s r) i m x.2) := by
    intro m
    induction m with
    | zero => intro i x; rfl
    | succ m ih => intro i x; exact ih (i + 1) _
  have := lpB (fun n i (x : Int64 × Int64) => f_X12_share_b91 h N n 100 p1 (nI s) gv r x.1 x.2 (nI i)) (fun f (x : Int64 × Int64) => (dgS σ gv s f x.1, waS σ gv s r f x.2)) (cn σ 26) (fun x => f_X12_share_b91 h N 1 100 p1 (nI s) gv r x.1 x.2 (nI (cn σ 26))) ?_ ?_ (m := cn σ 26) (N := N) (i := 0) (a := (0, 0)) (by omega) (by omega)
  · rw [key] at this
    exact this
  · intro n x
    simp (disch := omega) only [f_X12_share_b91, f_X12_share_b91_body, obs, b10, b01, bm, if_true_, if_false_, eq_self, not_true_eq_false, not_false_eq_true, true_or, or_true, or_false, false_or, and_true, true_and, and_false, false_and, or_self, and_self, Bool.false_eq_true, ite_self, n25, n20, n24, n100, RS.gi H, hF.1, nI_leI, Nat.le_refl]
  · intro n i x hi
    have hn : ¬ cn σ 26 ≤ i := by omega
    have ed : f_X12_dueOf h N 100 0 (nI i) (nI s) = some (dueO σ (R0 σ) (G0 σ) i s) := r_dueOf H W (TB0 W) hi hs hN
    by_cases q : σ.2 32 i = gv <;> simp (disch := omega) only [f_X12_share_b91, f_X12_share_b91_body, f_X12_share_b126, f_X12_share_b155, obs, b10, b01, bm, if_true_, if_false_, eq_self, not_true_eq_false, not_false_eq_true, true_or, or_true, or_false, false_or, and_true, true_and, and_false, false_and, or_self, and_self, Bool.false_eq_true, ite_self, n25, n20, n24, n100, RS.gi H, hF.1, nI_leI, hn, rg32 H, ra32 H, q, ed, r_weight H W, dgS, waS, Int64.add_zero, nI_1]
def shS (σ : SG) (gv : Int32) (s f : Nat) (r : Int32) (sum all : Int64) (i : Nat) (x : Int64 × Int32) : Int64 × Int32 := if σ.2 32 i = gv then (x.1 - (sum * wgL σ s r i) / all, if nI f ≤ nI i then x.2 else x.2 + 1) else x
def shA (σ : SG) (s f : Nat) (r : Int32) (sum all : Int64) (x : Int64 × Int32) : Int32 := if 0 ≤ lg_cmp x.2.toInt64 x.1 then ((sum * wgL σ s r f) / all).toInt32 + 0 else ((sum * wgL σ s r f) / all).toInt32 + 1
def shX (σ : SG) (gv : Int32) (s f : Nat) (r : Int32) (sum all : Int64) : Int32 := shA σ s f r sum all (itr (shS σ gv s f r sum all) 0 (cn σ 26) (sum, 0))
theorem c_shL (C : CS h σ tr u) (W : WV σ) {s f : Nat} {gv r : Int32} {sum all : Int64} (hf : f < cn σ 26) (hg : σ.2 32 f = gv) (hz : ¬ all = 0) (hN : 100 < N) : f_X11_share_b121 N N h 1 (nI f) (nI s) (300 + f) sum r all sum 0 0 = some (shX σ gv s f r sum all, h) := by
  have hF := W.1.f
  refine lpB (fun n i (x : Int64 × Int32) => f_X11_share_b121 N n h 1 (nI f) (nI s) (300 + f) sum r all x.1 x.2 (nI i)) (shS σ gv s f r sum all) (cn σ 26) (fun x => some (shA σ s f r sum all x, h)) ?_ ?_ (m := cn σ 26) (i := 0) (a := (sum, 0)) (by omega) (by omega)
  · intro n x
    by_cases q : 0 ≤ lg_cmp x.2.toInt64 x.1 <;> simp (disch := omega) only [f_X11_share_b121, f_X11_share_b121_body, obs, b10, b01, bm, if_true_, if_false_, eq_self, not_true_eq_false, not_false_eq_true, true_or, or_true, or_false, false_or, and_true, true_and, and_false, false_and, or_self, and_self, Bool.false_eq_true, ite_self, n25, n20, n24, n100, kr1_2 C, kz12 C, hF.1, nI_leI, Nat.le_refl, c_weightOf C W, hz, shA, q]
  · intro n i x hi
    have hn : ¬ cn σ 26 ≤ i := by omega
    by_cases q : σ.2 32 i = gv
    · by_cases q2 : nI f ≤ nI i <;> simp (disch := omega) only [f_X11_share_b121, f_X11_share_b121_body, f_X11_share_b191, obs, b10, b01, bm, if_true_, if_false_, eq_self, not_true_eq_false, not_false_eq_true, true_or, or_true, or_false, false_or, and_true, true_and, and_false, false_and, or_self, and_self, Bool.false_eq_true, ite_self, n25, n20, n24, n100, kr1_2 C, kz12 C, hF.1, nI_leI, hn, kg12 C W.1, kc300 C, kf300_7 C, hg, q, c_weightOf C W, hz, shS, nI_1] <;> simp (disch := omega) only [nI_leI] at q2 <;> simp only [q2, if_true_, if_false_]
    · simp (disch := omega) only [f_X11_share_b121, f_X11_share_b121_body, f_X11_share_b191, obs, b10, b01, bm, if_true_, if_false_, eq_self, not_true_eq_false, not_false_eq_true, true_or, or_true, or_false, false_or, and_true, true_and, and_false, false_and, or_self, and_self, Bool.false_eq_true, ite_self, n25, n20, n24, n100, kr1_2 C, kz12 C, hF.1, nI_leI, hn, kg12 C W.1, kc300 C, kf300_7 C, hg, q, shS, nI_1]
theorem r_shL (H : RS h σ) (W : WV σ) {s f : Nat} {gv r : Int32} {sum all : Int64} (hf : f < cn σ 26) (hz : ¬ all = 0) (hN : 100 < N) : f_X12_share_b207 h N N 100 (nI f) (nI s) gv r sum all sum 0 0 = some (shX σ gv s f r sum all) := by
  have hF := W.1.f
  refine lpB (fun n i (x : Int64 × Int32) => f_X12_share_b207 h N n 100 (nI f) (nI s) gv r sum all x.1 x.2 (nI i)) (shS σ gv s f r sum all) (cn σ 26) (fun x => some (shA σ s f r sum all x)) ?_ ?_ (m := cn σ 26) (i := 0) (a := (sum, 0)) (by omega) (by omega)
  · intro n x
    have l1 : (1 : Int64).toInt32 = 1 := by decide
    have l0 : (0 : Int64).toInt32 = 0 := by decide
    by_cases q : 0 ≤ lg_cmp x.2.toInt64 x.1 <;> simp (disch := omega) only [f_X12_share_b207, f_X12_share_b207_body, obs, b10, b01, bm, if_true_, if_false_, eq_self, not_true_eq_false, not_false_eq_true, true_or, or_true, or_false, false_or, and_true, true_and, and_false, false_and, or_self, and_self, Bool.false_eq_true, ite_self, n25, n20, n24, n100, RS.gi H, hF.1, nI_leI, Nat.le_refl, r_weight H W, hz, shA, q, Int64.toInt32_add, l1, l0]
  · intro n i x hi
    have hn : ¬ cn σ 26 ≤ i := by omega
    by_cases q : σ.2 32 i = gv
    · by_cases q2 : f ≤ i <;> simp (disch := omega) only [f_X12_share_b207, f_X12_share_b207_body, f_X12_share_b248, f_X12_share_b274, f_X12_share_b275, obs, b10, b01, bm, if_true_, if_false_, eq_self, not_true_eq_false, not_false_eq_true, true_or, or_true, or_false, false_or, and_true, true_and, and_false, false_and, or_self, and_self, Bool.false_eq_true, ite_self, n25, n20, n24, n100, RS.gi H, hF.1, nI_leI, hn, rg32 H, ra32 H, q, r_weight H W, hz, shS, q2, Int32.add_zero, nI_1]
    · simp (disch := omega) only [f_X12_share_b207, f_X12_share_b207_body, f_X12_share_b248, f_X12_share_b274, f_X12_share_b275, obs, b10, b01, bm, if_true_, if_false_, eq_self, not_true_eq_false, not_false_eq_true, true_or, or_true, or_false, false_or, and_true, true_and, and_false, false_and, or_self, and_self, Bool.false_eq_true, ite_self, n25, n20, n24, n100, RS.gi H, hF.1, nI_leI, hn, rg32 H, ra32 H, q, shS, Int64.sub_zero, Int32.add_zero, nI_1]
def mbS (σ : SG) (gv : Int32) (f x : Nat) : Nat := if σ.2 32 f = gv then x + 1 else x
def mbN (σ : SG) (gv : Int32) : Nat := itr (mbS σ gv) 0 (cn σ 26) 0
theorem mb_wa {gv : Int32} {s : Nat} : waX σ gv s 0 = lN (mbN σ gv) := by
  have : ∀ m i a, itr (waS σ gv s 0) i m (lN a) = lN (itr (mbS σ gv) i m a) := by
    intro m
    induction m with
    | zero => intro i a; rfl
    | succ m ih =>
      intro i a
      have e : waS σ gv s 0 i (lN a) = lN (mbS σ gv i a) := by
        unfold waS mbS wgL
        by_cases q : σ.2 32 i = gv
        · rw [if_pos q, if_pos q, if_pos rfl, lN_1]
        · rw [if_neg q, if_neg q]
      show itr (waS σ gv s 0) (i + 1) m (waS σ gv s 0 i (lN a)) = _
      rw [e]
      exact ih (i + 1) _
  exact this (cn σ 26) 0 0
theorem mb_vt (W : WV σ) {gv : Int32} : votN σ gv 0 + votN σ gv 1 + votN σ gv 2 = mbN σ gv := by
  have : ∀ m i a b c, i + m ≤ cn σ 26 → itr (vtS σ gv 0) i m a + itr (vtS σ gv 1) i m b + itr (vtS σ gv 2) i m c = itr (mbS σ gv) i m (a + b + c) := by
    intro m
    induction m with
    | zero => intro i a b c _; rfl
    | succ m ih =>
      intro i a b c hi
      have e : vtS σ gv 0 i a + vtS σ gv 1 i b + vtS σ gv 2 i c = mbS σ gv i (a + b + c) := by
        unfold vtS mbS
        by_cases q : σ.2 32 i = gv
        · obtain ⟨y, hy, ey⟩ := wv33 W (j := i) (by omega)
          have y3 : y = 0 ∨ y = 1 ∨ y = 2 := by omega
          have z01 : ¬ (0 : Int32) = 1 := by decide
          have z02 : ¬ (0 : Int32) = 2 := by decide
          have z10 : ¬ (1 : Int32) = 0 := by decide
          have z12 : ¬ (1 : Int32) = 2 := by decide
          have z20 : ¬ (2 : Int32) = 0 := by decide
          have z21 : ¬ (2 : Int32) = 1 := by decide
          rcases y3 with rfl | rfl | rfl
          · rw [ey, il0, if_pos ⟨q, rfl⟩, if_neg (fun z => z01 z.2), if_neg (fun z => z02 z.2), if_pos q]; omega
          · rw [ey, il1, if_neg (fun z => z10 z.2), if_pos ⟨q, rfl⟩, if_neg (fun z => z12 z.2), if_pos q]; omega
          · rw [ey, il2, if_neg (fun z => z20 z.2), if_neg (fun z => z21 z.2), if_pos ⟨q, rfl⟩, if_pos q]; omega
        · simp [q]
      show itr (vtS σ gv 0) (i + 1) m (vtS σ gv 0 i a) + itr (vtS σ gv 1) (i + 1) m (vtS σ gv 1 i b) + itr (vtS σ gv 2) (i + 1) m (vtS σ gv 2 i c) = itr (mbS σ gv) (i + 1) m (mbS σ gv i (a + b + c))
      rw [ih (i + 1) _ _ _ (by omega), e]
  exact this (cn σ 26) 0 0 0 0 (by omega)
theorem mb_pos {gv : Int32} {f : Nat} (hf : f < cn σ 26) (hg : σ.2 32 f = gv) : 0 < mbN σ gv := by
  have mono : ∀ m i a, a ≤ itr (mbS σ gv) i m a := by
    intro m
    induction m with
    | zero => intro i a; exact Nat.le_refl _
    | succ m ih =>
      intro i a
      refine Nat.le_trans ?_ (ih (i + 1) (mbS σ gv i a))
      unfold mbS
      split <;> omega
  have : ∀ m i a, i ≤ f → f < i + m → 0 < itr (mbS σ gv) i m a := by
    intro m
    induction m with
    | zero => intro i a h1 h2; omega
    | succ m ih =>
      intro i a h1 h2
      by_cases e : i = f
      · have h3 := mono m (i + 1) (mbS σ gv i a)
        have h4 : mbS σ gv i a = a + 1 := by unfold mbS; rw [e, if_pos hg]
        show 0 < itr (mbS σ gv) (i + 1) m (mbS σ gv i a)
        omega
      · exact ih (i + 1) _ (by omega) (by omega)
  exact this (cn σ 26) 0 0 (by omega) (by omega)
theorem mb_le {gv : Int32} : mbN σ gv ≤ cn σ 26 := by
  have := itr_le (st := mbS σ gv) (c := 1) (fun j x => by unfold mbS; split <;> omega) (m := cn σ 26) (i := 0) (a := 0)
  unfold mbN
  omega
theorem pub_share {a b : Int32} (I : INV L xs h σ tr u n) (hN : 2000 < N) : ∃ v h1, f_X11_share h N 1 a b = some (v, h1) ∧ f_X12_share h1 N 100 a b = some v ∧ INV L xs h1 σ tr u n := by
  obtain ⟨C, H, W, X, S, U⟩ := id I
  have hF := W.1.f
  have hTl := W.1.tl
  rcases okC a (n := cn σ 26) (by omega) with oa | ⟨oa, f, hf, rfl⟩
  · exact ⟨-5, h, by simp only [f_X11_share, obs, b10, b01, bm, if_true_, if_false_, eq_self, not_true_eq_false, not_false_eq_true, true_or, or_true, or_false, false_or, and_true, true_and, and_false, false_and, or_self, and_self, Bool.false_eq_true, ite_self, n25, n20, n24, n100, kk1 C, RS.kk H, c_isGauge C W.1, c_isTerm C W.1, c_isFarm C W.1, c_isSeason, c_isPlace, r_isGauge H W.1, r_isTerm H W.1, r_isFarm H W.1, r_isSeason, r_isWeek, r_isPlace, r_isSheet, ci1, ri1, ci2, ri2, ci3, ri3, ci4, ri4, ci5, ri5, ci11, ri11, ci16, ri16, ci98, ri98, ci99, ri99, ci198, ri198, ci9999, ri9999, oa], by simp only [f_X12_share, obs, b10, b01, bm, if_true_, if_false_, eq_self, not_true_eq_false, not_false_eq_true, true_or, or_true, or_false, false_or, and_true, true_and, and_false, false_and, or_self, and_self, Bool.false_eq_true, ite_self, n25, n20, n24, n100, kk1 C, RS.kk H, c_isGauge C W.1, c_isTerm C W.1, c_isFarm C W.1, c_isSeason, c_isPlace, r_isGauge H W.1, r_isTerm H W.1, r_isFarm H W.1, r_isSeason, r_isWeek, r_isPlace, r_isSheet, ci1, ri1, ci2, ri2, ci3, ri3, ci4, ri4, ci5, ri5, ci11, ri11, ci16, ri16, ci98, ri98, ci99, ri99, ci198, ri198, ci9999, ri9999, oa], I⟩
  rcases okC b (n := 16) (by decide) with ob | ⟨ob, s, hs, rfl⟩
  · exact ⟨-5, h, by simp only [f_X11_share, obs, b10, b01, bm, if_true_, if_false_, eq_self, not_true_eq_false, not_false_eq_true, true_or, or_true, or_false, false_or, and_true, true_and, and_false, false_and, or_self, and_self, Bool.false_eq_true, ite_self, n25, n20, n24, n100, kk1 C, RS.kk H, c_isGauge C W.1, c_isTerm C W.1, c_isFarm C W.1, c_isSeason, c_isPlace, r_isGauge H W.1, r_isTerm H W.1, r_isFarm H W.1, r_isSeason, r_isWeek, r_isPlace, r_isSheet, ci1, ri1, ci2, ri2, ci3, ri3, ci4, ri4, ci5, ri5, ci11, ri11, ci16, ri16, ci98, ri98, ci99, ri99, ci198, ri198, ci9999, ri9999, oa, ob], by simp only [f_X12_share, obs, b10, b01, bm, if_true_, if_false_, eq_self, not_true_eq_false, not_false_eq_true, true_or, or_true, or_false, false_or, and_true, true_and, and_false, false_and, or_self, and_self, Bool.false_eq_true, ite_self, n25, n20, n24, n100, kk1 C, RS.kk H, c_isGauge C W.1, c_isTerm C W.1, c_isFarm C W.1, c_isSeason, c_isPlace, r_isGauge H W.1, r_isTerm H W.1, r_isFarm H W.1, r_isSeason, r_isWeek, r_isPlace, r_isSheet, ci1, ri1, ci2, ri2, ci3, ri3, ci4, ri4, ci5, ri5, ci11, ri11, ci16, ri16, ci98, ri98, ci99, ri99, ci198, ri198, ci9999, ri9999, oa, ob], I⟩
  by_cases q : σ.2 32 f = -1
  · obtain ⟨h1, e1, S1, -⟩ := c_dueOf (N := N) (kk := cn σ 7) C W hf hs (by omega) (by omega)
    have I' := I.scr S1
    have H' := I'.2.1
    have ed : f_X12_dueOf h1 N 100 0 (nI f) (nI s) = some (dueO σ (R0 σ) (G0 σ) f s) := r_dueOf H' W (TB0 W) hf hs (by omega)
    refine ⟨dueO σ (R0 σ) (G0 σ) f s, h1, ?_, ?_, I'⟩
    · simp (disch := omega) only [f_X11_share, obs, b10, b01, bm, if_true_, if_false_, eq_self, not_true_eq_false, not_false_eq_true, true_or, or_true, or_false, false_or, and_true, true_and, and_false, false_and, or_self, and_self, Bool.false_eq_true, ite_self, n25, n20, n24, n100, kk1 C, RS.kk H, c_isGauge C W.1, c_isTerm C W.1, c_isFarm C W.1, c_isSeason, c_isPlace, r_isGauge H W.1, r_isTerm H W.1, r_isFarm H W.1, r_isSeason, r_isWeek, r_isPlace, r_isSheet, ci1, ri1, ci2, ri2, ci3, ri3, ci4, ri4, ci5, ri5, ci11, ri11, ci16, ri16, ci98, ri98, ci99, ri99, ci198, ri198, ci9999, ri9999, oa, ob, kr1_2 C, kg12 C W.1, kc300 C, kf300_7 C, q, c_now C W.1, e1]
    · simp (disch := omega) only [f_X12_share, obs, b10, b01, bm, if_true_, if_false_, eq_self, not_true_eq_false, not_false_eq_true, true_or, or_true, or_false, false_or, and_true, true_and, and_false, false_and, or_self, and_self, Bool.false_eq_true, ite_self, n25, n20, n24, n100, RS.kk H', r_isFarm H' W.1, r_isSeason, oa, ob, rg32 H', ra32 H', q, ed]
  · obtain ⟨gv, hgv⟩ : ∃ gv, gv = σ.2 32 f := ⟨_, rfl⟩
    obtain ⟨h1, e1, S1⟩ := c_dueG (N := N) C W (gv := σ.2 32 f) hs (by omega)
    have I' := I.scr S1
    have H' := I'.2.1
    have C' := I'.1
    have hmb := mb_pos hf (gv := σ.2 32 f) rfl
    have hml := mb_le (σ := σ) (gv := σ.2 32 f)
    have hm0 : ¬ waX σ (σ.2 32 f) s 0 = 0 := by rw [mb_wa, lN_z (by omega)]; omega
    have r1 : f_X12_share h1 N 100 (nI f) (nI s) = f_X12_share_b91 h1 N 1 100 (nI f) (nI s) (σ.2 32 f) (nI (rlN σ (σ.2 32 f))) (dgX σ (σ.2 32 f) s) (waX σ (σ.2 32 f) s (nI (rlN σ (σ.2 32 f)))) (nI (cn σ 26)) := by
      rw [← r_sumL H' W hs (by omega), ← r_ruleL H' W (by omega)]
      simp (disch := omega) only [f_X12_share, obs, b10, b01, bm, if_true_, if_false_, eq_self, not_true_eq_false, not_false_eq_true, true_or, or_true, or_false, false_or, and_true, true_and, and_false, false_and, or_self, and_self, Bool.false_eq_true, ite_self, n25, n20, n24, n100, RS.kk H', r_isFarm H' W.1, r_isSeason, oa, ob, rg32 H', ra32 H', q]
    by_cases q2 : waX σ (σ.2 32 f) s (nI (rlN σ (σ.2 32 f))) = 0
    · refine ⟨shX σ (σ.2 32 f) s f 0 (dgX σ (σ.2 32 f) s) (waX σ (σ.2 32 f) s 0), h1, ?_, ?_, I'⟩
      · have k1 := c_shL (N := N) C' W (s := s) (r := 0) (sum := dgX σ (σ.2 32 f) s) hf rfl hm0 (by omega)
        simp (disch := omega) only [f_X11_share, f_X11_share_b89, obs, b10, b01, bm, if_true_, if_false_, eq_self, not_true_eq_false, not_false_eq_true, true_or, or_true, or_false, false_or, and_true, true_and, and_false, false_and, or_self, and_self, Bool.false_eq_true, ite_self, n25, n20, n24, n100, kk1 C, RS.kk H, c_isGauge C W.1, c_isTerm C W.1, c_isFarm C W.1, c_isSeason, c_isPlace, r_isGauge H W.1, r_isTerm H W.1, r_isFarm H W.1, r_isSeason, r_isWeek, r_isPlace, r_isSheet, ci1, ri1, ci2, ri2, ci3, ri3, ci4, ri4, ci5, ri5, ci11, ri11, ci16, ri16, ci98, ri98, ci99, ri99, ci198, ri198, ci9999, ri9999, oa, ob, kr1_2 C, kg12 C W.1, kc300 C, kf300_7 C, kf300_7 C', q, e1, c_ruleOf C' W, c_weightG C' W, lgz, q2, hm0, k1]
      · rw [r1]
        have b0 := votN_le (σ := σ) (gv := σ.2 32 f) (r := 0)
        have ev : (nI (votN σ (σ.2 32 f) 0) + nI (votN σ (σ.2 32 f) 1) + nI (votN σ (σ.2 32 f) 2)).toInt64 = waX σ (σ.2 32 f) s 0 := by
          rw [nI_add, nI_add, mb_vt W, nI_l (by omega), mb_wa]
        have k1 := r_shL (N := N) H' W (s := s) (gv := σ.2 32 f) (r := 0) (sum := dgX σ (σ.2 32 f) s) hf hm0 (by omega)
        simp (disch := omega) only [f_X12_share_b91, f_X12_share_b91_body, f_X12_share_b197, obs, b10, b01, bm, if_true_, if_false_, eq_self, not_true_eq_false, not_false_eq_true, true_or, or_true, or_false, false_or, and_true, true_and, and_false, false_and, or_self, and_self, Bool.false_eq_true, ite_self, n25, n20, n24, n100, RS.gi H', hF.1, nI_leI, Nat.le_refl, lgz, q2, r_votes H' W, ev, k1]
    · refine ⟨shX σ (σ.2 32 f) s f (nI (rlN σ (σ.2 32 f))) (dgX σ (σ.2 32 f) s) (waX σ (σ.2 32 f) s (nI (rlN σ (σ.2 32 f)))), h1, ?_, ?_, I'⟩
      · have k1 := c_shL (N := N) C' W (s := s) (r := nI (rlN σ (σ.2 32 f))) (sum := dgX σ (σ.2 32 f) s) hf rfl q2 (by omega)
        simp (disch := omega) only [f_X11_share, f_X11_share_b89, obs, b10, b01, bm, if_true_, if_false_, eq_self, not_true_eq_false, not_false_eq_true, true_or, or_true, or_false, false_or, and_true, true_and, and_false, false_and, or_self, and_self, Bool.false_eq_true, ite_self, n25, n20, n24, n100, kk1 C, RS.kk H, c_isGauge C W.1, c_isTerm C W.1, c_isFarm C W.1, c_isSeason, c_isPlace, r_isGauge H W.1, r_isTerm H W.1, r_isFarm H W.1, r_isSeason, r_isWeek, r_isPlace, r_isSheet, ci1, ri1, ci2, ri2, ci3, ri3, ci4, ri4, ci5, ri5, ci11, ri11, ci16, ri16, ci98, ri98, ci99, ri99, ci198, ri198, ci9999, ri9999, oa, ob, kr1_2 C, kg12 C W.1, kc300 C, kf300_7 C, kf300_7 C', q, e1, c_ruleOf C' W, c_weightG C' W, lgz, q2, k1]
      · rw [r1]
        have k1 := r_shL (N := N) H' W (s := s) (gv := σ.2 32 f) (r := nI (rlN σ (σ.2 32 f))) (sum := dgX σ (σ.2 32 f) s) hf q2 (by omega)
        simp (disch := omega) only [f_X12_share_b91, f_X12_share_b91_body, f_X12_share_b197, obs, b10, b01, bm, if_true_, if_false_, eq_self, not_true_eq_false, not_false_eq_true, true_or, or_true, or_false, false_or, and_true, true_and, and_false, false_and, or_self, and_self, Bool.false_eq_true, ite_self, n25, n20, n24, n100, RS.gi H', hF.1, nI_leI, Nat.le_refl, lgz, q2, k1]
end
