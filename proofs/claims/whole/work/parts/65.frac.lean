/-! ===== fractions ===== -/
section
variable {L N : Nat} {xs : Nat → Int32} {h h' : AH} {σ σ' : SG} {tr : Nat → Nat} {u n : Nat}

theorem lgc0 {b : Nat} (hb : b < 2 ^ 63) : (lg_cmp (lN b) 0 = 0) = (b = 0) := by
  rcases b with _ | b
  · simp only [eq_iff_iff, iff_true]; decide
  · have h1 := lg0 (b := b + 1) (by omega) hb
    simp only [eq_iff_iff]
    constructor
    · intro e; rw [e] at h1; exact absurd h1 (by decide)
    · intro e; omega
theorem lN_z {b : Nat} (hb : b < 2 ^ 63) : (lN b = 0) = (b = 0) := by
  rw [show (0 : Int64) = lN 0 by decide]
  exact propext (pk_lEQ hb (by omega))
theorem mod2 {B r p : Nat} (h0 : 0 < r) (h1 : r < B) (h2 : B < 2 * p) : B % r < p := by
  by_cases q : r ≤ p
  · exact Nat.lt_of_lt_of_le (Nat.mod_lt B h0) q
  · rw [Nat.mod_eq_sub_mod (by omega), Nat.mod_eq_of_lt (by omega)]
    omega
theorem gcd_st (A B : Nat) : Nat.gcd A B = Nat.gcd B (A % B) := by
  rw [Nat.gcd_comm A B, Nat.gcd_rec B A, Nat.gcd_comm]
theorem r_gcd {h : AH} : ∀ (k n A B : Nat), B < 2 ^ k → B < 2 ^ 62 → A < 2 ^ 62 → 2 * k < n → f_X12_common_b17 h N n (lN A) (lN B) = some (lN (Nat.gcd A B)) := by
  have st : ∀ n A B, 0 < B → B < 2 ^ 62 → A < 2 ^ 62 → f_X12_common_b17 h N (n + 1) (lN A) (lN B) = f_X12_common_b17 h N n (lN B) (lN (A % B)) := by
    intro n A B h0 h1 h2
    show f_X12_common_b17_body h N (f_X12_common_b17 h N n) (lN A) (lN B) = _
    unfold f_X12_common_b17_body
    rw [if_neg (by rw [lgc0 (by omega)]; omega), if_neg (by rw [lN_z (by omega)]; omega), pk_lRem (by omega) h0 (by omega)]
  have ex : ∀ n A, f_X12_common_b17 h N (n + 1) (lN A) (lN 0) = some (lN A) := by
    intro n A
    show f_X12_common_b17_body h N (f_X12_common_b17 h N n) (lN A) (lN 0) = _
    unfold f_X12_common_b17_body
    rw [if_pos (by rw [lgc0 (by omega)])]
  intro k
  induction k with
  | zero =>
    intro n A B h1 _ _ hn
    obtain ⟨m, rfl⟩ : ∃ m, n = m + 1 := ⟨n - 1, by omega⟩
    have : B = 0 := by omega
    subst this
    rw [ex, Nat.gcd_zero_right]
  | succ k ih =>
    intro n A B h1 h2 h3 hn
    obtain ⟨m, rfl⟩ : ∃ m, n = m + 2 := ⟨n - 2, by omega⟩
    rcases Nat.eq_zero_or_pos B with e | e
    · subst e; rw [ex, Nat.gcd_zero_right]
    · have hr := Nat.mod_lt A e
      rw [st (m + 1) A B e h2 h3, gcd_st A B]
      rcases Nat.eq_zero_or_pos (A % B) with e2 | e2
      · rw [e2, ex, Nat.gcd_zero_right]
      · have hp : 2 ^ (k + 1) = 2 * 2 ^ k := by rw [Nat.pow_succ, Nat.mul_comm]
        have hr2 := Nat.mod_lt B e2
        rw [st m B (A % B) e2 (by omega) (by omega), gcd_st B (A % B)]
        exact ih m _ _ (mod2 e2 hr (by omega)) (by omega) (by omega) (by omega)
theorem c_gcd {h : AH} : ∀ (k n A B i : Nat), B < 2 ^ k → B < 2 ^ 62 → A < 2 ^ 62 → 2 * k < n → i + 2 * k < 100 → f_X11_commonDivisor_b3 h N n (lN A) (lN B) (nI i) = some (lN (Nat.gcd A B)) := by
  have st : ∀ n A B i, 0 < B → B < 2 ^ 62 → A < 2 ^ 62 → i < 100 → f_X11_commonDivisor_b3 h N (n + 1) (lN A) (lN B) (nI i) = f_X11_commonDivisor_b3 h N n (lN B) (lN (A % B)) (nI (i + 1)) := by
    intro n A B i h0 h1 h2 hi
    show f_X11_commonDivisor_b3_body h N (f_X11_commonDivisor_b3 h N n) (lN A) (lN B) (nI i) = _
    unfold f_X11_commonDivisor_b3_body
    rw [if_neg (by rw [lt100, nI_leI (by decide) (by omega)]; omega), if_neg (by rw [lgc0 (by omega)]; omega), if_neg (by rw [lN_z (by omega)]; omega), pk_lRem (by omega) h0 (by omega), nI_1]
  have ex : ∀ n A i, f_X11_commonDivisor_b3 h N (n + 1) (lN A) (lN 0) (nI i) = some (lN A) := by
    intro n A i
    show f_X11_commonDivisor_b3_body h N (f_X11_commonDivisor_b3 h N n) (lN A) (lN 0) (nI i) = _
    unfold f_X11_commonDivisor_b3_body
    rw [if_pos (show lg_cmp (lN 0) 0 = 0 by rw [lgc0 (by omega)]), ite_self]
  intro k
  induction k with
  | zero =>
    intro n A B i h1 _ _ hn _
    obtain ⟨m, rfl⟩ : ∃ m, n = m + 1 := ⟨n - 1, by omega⟩
    have : B = 0 := by omega
    subst this
    rw [ex, Nat.gcd_zero_right]
  | succ k ih =>
    intro n A B i h1 h2 h3 hn hi
    obtain ⟨m, rfl⟩ : ∃ m, n = m + 2 := ⟨n - 2, by omega⟩
    rcases Nat.eq_zero_or_pos B with e | e
    · subst e; rw [ex, Nat.gcd_zero_right]
    · have hr := Nat.mod_lt A e
      rw [st (m + 1) A B i e h2 h3 (by omega), gcd_st A B]
      rcases Nat.eq_zero_or_pos (A % B) with e2 | e2
      · rw [e2, ex, Nat.gcd_zero_right]
      · have hp : 2 ^ (k + 1) = 2 * 2 ^ k := by rw [Nat.pow_succ, Nat.mul_comm]
        have hr2 := Nat.mod_lt B e2
        rw [st m B (A % B) (i + 1) e2 (by omega) (by omega) (by omega), gcd_st B (A % B)]
        exact ih m _ _ _ (mod2 e2 hr (by omega)) (by omega) (by omega) (by omega) (by omega)
theorem part_eq {h h' : AH} {p0 : Int64} {A B : Nat} {p2 : Int32} (hA : (if 0 < p0 then p0 else -p0) = lN A) (hA2 : A < 2 ^ 62) (hB : 0 < B) (hB2 : B < 2 ^ 40) (hN : 200 < N) : ∃ v, f_X11_partOf h N p0 (lN B) p2 = some v ∧ f_X12_part h' N p0 (lN B) p2 = some v := by
  have hg : 0 < Nat.gcd A B := Nat.gcd_pos_of_pos_right A hB
  have hg2 : Nat.gcd A B ≤ B := Nat.gcd_le_right A hB
  have g1 : f_X11_commonDivisor h N (lN A) (lN B) = some (lN (Nat.gcd A B)) := c_gcd 40 N A B 0 hB2 (by omega) hA2 (by omega) (by omega)
  have g2 : f_X12_common h' N p0 (lN B) = some (lN (Nat.gcd A B)) := by
    have r1 : f_X12_common_b17 h' N N (lN A) (lN B) = some (lN (Nat.gcd A B)) := r_gcd 40 N A B hB2 (by omega) hA2 (by omega)
    unfold f_X12_common f_X12_common_b12
    by_cases q : 0 < p0
    · rw [if_pos q] at hA
      have : lg_cmp p0 0 = 1 := by unfold lg_cmp; rw [if_pos q]
      rw [this, if_pos (by decide), hA]
      exact r1
    · rw [if_neg q] at hA
      by_cases q2 : p0 = 0
      · subst q2
        rw [show lg_cmp 0 0 = 0 by decide, if_pos (by decide), show (0 : Int64) = -0 by decide, hA]
        exact r1
      · have : lg_cmp p0 0 = -1 := by unfold lg_cmp; rw [if_neg q, if_neg q2]
        rw [this, if_neg (by decide), hA]
        exact r1
  have z1 : ¬ lg_cmp (lN (Nat.gcd A B)) 0 = 0 := by rw [lgc0 (by omega)]; omega
  have z2 : ¬ lN (Nat.gcd A B) = 0 := by rw [lN_z (by omega)]; omega
  unfold f_X11_partOf f_X12_part
  rw [hA, g1, g2, obs, obs, if_neg z1, if_neg z2, if_neg z2]
  by_cases q : p2 = 0
  · exact ⟨_, by rw [if_pos q], by rw [if_pos q]⟩
  · exact ⟨_, by rw [if_neg q], by rw [if_neg q]⟩
theorem absN {A : Nat} (h : A < 2 ^ 62) : (if 0 < lN A then lN A else -lN A) = lN A := by
  rcases A with _ | A
  · decide
  · rw [if_pos (by rw [show (0 : Int64) = lN 0 by decide, pk_lLT (by omega) (by omega)]; omega)]
theorem pub_mean {a b c d e : Int32} (I : INV L xs h σ tr u n) (hN : 2000 < N) : ∃ v h1, f_X11_mean h N 1 a b c d e = some (v, h1) ∧ f_X12_mean h1 N 100 a b c d e = some v ∧ INV L xs h1 σ tr u n := by
  obtain ⟨C, H, W, X, S, U⟩ := id I
  have hG := W.1.g
  have hT := W.1.t
  have hF := W.1.f
  have hTl := W.1.tl
  rcases okC a (n := cn σ 13) (by omega) with oa | ⟨oa, t, ht, rfl⟩
  · exact ⟨-9223372036854775808, h, by simp only [f_X11_mean, f_X11_isOffer, obs, b10, b01, bm, if_true_, if_false_, eq_self, not_true_eq_false, not_false_eq_true, true_or, or_true, or_false, false_or, and_true, true_and, and_false, false_and, or_self, and_self, Bool.false_eq_true, ite_self, n25, n20, n24, n100, kk1 C, RS.kk H, c_isGauge C W.1, c_isTerm C W.1, c_isFarm C W.1, c_isSeason, c_isPlace, r_isGauge H W.1, r_isTerm H W.1, r_isFarm H W.1, r_isSeason, r_isWeek, r_isPlace, r_isSheet, ci1, ri1, ci2, ri2, ci3, ri3, ci4, ri4, ci5, ri5, ci11, ri11, ci16, ri16, ci98, ri98, ci99, ri99, ci198, ri198, ci9999, ri9999, oa], by simp only [f_X12_mean, f_X12_isAsked, obs, b10, b01, bm, if_true_, if_false_, eq_self, not_true_eq_false, not_false_eq_true, true_or, or_true, or_false, false_or, and_true, true_and, and_false, false_and, or_self, and_self, Bool.false_eq_true, ite_self, n25, n20, n24, n100, kk1 C, RS.kk H, c_isGauge C W.1, c_isTerm C W.1, c_isFarm C W.1, c_isSeason, c_isPlace, r_isGauge H W.1, r_isTerm H W.1, r_isFarm H W.1, r_isSeason, r_isWeek, r_isPlace, r_isSheet, ci1, ri1, ci2, ri2, ci3, ri3, ci4, ri4, ci5, ri5, ci11, ri11, ci16, ri16, ci98, ri98, ci99, ri99, ci198, ri198, ci9999, ri9999, oa], I⟩
  rcases okC b (n := cn σ 0) (by omega) with ob | ⟨ob, g, hg, rfl⟩
  · exact ⟨-9223372036854775808, h, by simp only [f_X11_mean, f_X11_isOffer, obs, b10, b01, bm, if_true_, if_false_, eq_self, not_true_eq_false, not_false_eq_true, true_or, or_true, or_false, false_or, and_true, true_and, and_false, false_and, or_self, and_self, Bool.false_eq_true, ite_self, n25, n20, n24, n100, kk1 C, RS.kk H, c_isGauge C W.1, c_isTerm C W.1, c_isFarm C W.1, c_isSeason, c_isPlace, r_isGauge H W.1, r_isTerm H W.1, r_isFarm H W.1, r_isSeason, r_isWeek, r_isPlace, r_isSheet, ci1, ri1, ci2, ri2, ci3, ri3, ci4, ri4, ci5, ri5, ci11, ri11, ci16, ri16, ci98, ri98, ci99, ri99, ci198, ri198, ci9999, ri9999, oa, ob], by simp only [f_X12_mean, f_X12_isAsked, obs, b10, b01, bm, if_true_, if_false_, eq_self, not_true_eq_false, not_false_eq_true, true_or, or_true, or_false, false_or, and_true, true_and, and_false, false_and, or_self, and_self, Bool.false_eq_true, ite_self, n25, n20, n24, n100, kk1 C, RS.kk H, c_isGauge C W.1, c_isTerm C W.1, c_isFarm C W.1, c_isSeason, c_isPlace, r_isGauge H W.1, r_isTerm H W.1, r_isFarm H W.1, r_isSeason, r_isWeek, r_isPlace, r_isSheet, ci1, ri1, ci2, ri2, ci3, ri3, ci4, ri4, ci5, ri5, ci11, ri11, ci16, ri16, ci98, ri98, ci99, ri99, ci198, ri198, ci9999, ri9999, oa, ob], I⟩
  rcases okC c (n := 6) (by decide) with oc | ⟨oc, p, hp, rfl⟩
  · exact ⟨-9223372036854775808, h, by simp only [f_X11_mean, f_X11_isOffer, obs, b10, b01, bm, if_true_, if_false_, eq_self, not_true_eq_false, not_false_eq_true, true_or, or_true, or_false, false_or, and_true, true_and, and_false, false_and, or_self, and_self, Bool.false_eq_true, ite_self, n25, n20, n24, n100, kk1 C, RS.kk H, c_isGauge C W.1, c_isTerm C W.1, c_isFarm C W.1, c_isSeason, c_isPlace, r_isGauge H W.1, r_isTerm H W.1, r_isFarm H W.1, r_isSeason, r_isWeek, r_isPlace, r_isSheet, ci1, ri1, ci2, ri2, ci3, ri3, ci4, ri4, ci5, ri5, ci11, ri11, ci16, ri16, ci98, ri98, ci99, ri99, ci198, ri198, ci9999, ri9999, oa, ob, oc], by simp only [f_X12_mean, f_X12_isAsked, obs, b10, b01, bm, if_true_, if_false_, eq_self, not_true_eq_false, not_false_eq_true, true_or, or_true, or_false, false_or, and_true, true_and, and_false, false_and, or_self, and_self, Bool.false_eq_true, ite_self, n25, n20, n24, n100, kk1 C, RS.kk H, c_isGauge C W.1, c_isTerm C W.1, c_isFarm C W.1, c_isSeason, c_isPlace, r_isGauge H W.1, r_isTerm H W.1, r_isFarm H W.1, r_isSeason, r_isWeek, r_isPlace, r_isSheet, ci1, ri1, ci2, ri2, ci3, ri3, ci4, ri4, ci5, ri5, ci11, ri11, ci16, ri16, ci98, ri98, ci99, ri99, ci198, ri198, ci9999, ri9999, oa, ob, oc], I⟩
  rcases okC d (n := 4) (by decide) with od | ⟨od, k, hk, rfl⟩
  · exact ⟨-9223372036854775808, h, by simp only [f_X11_mean, f_X11_isOffer, obs, b10, b01, bm, if_true_, if_false_, eq_self, not_true_eq_false, not_false_eq_true, true_or, or_true, or_false, false_or, and_true, true_and, and_false, false_and, or_self, and_self, Bool.false_eq_true, ite_self, n25, n20, n24, n100, kk1 C, RS.kk H, c_isGauge C W.1, c_isTerm C W.1, c_isFarm C W.1, c_isSeason, c_isPlace, r_isGauge H W.1, r_isTerm H W.1, r_isFarm H W.1, r_isSeason, r_isWeek, r_isPlace, r_isSheet, ci1, ri1, ci2, ri2, ci3, ri3, ci4, ri4, ci5, ri5, ci11, ri11, ci16, ri16, ci98, ri98, ci99, ri99, ci198, ri198, ci9999, ri9999, oa, ob, oc, od], by simp only [f_X12_mean, f_X12_isAsked, obs, b10, b01, bm, if_true_, if_false_, eq_self, not_true_eq_false, not_false_eq_true, true_or, or_true, or_false, false_or, and_true, true_and, and_false, false_and, or_self, and_self, Bool.false_eq_true, ite_self, n25, n20, n24, n100, kk1 C, RS.kk H, c_isGauge C W.1, c_isTerm C W.1, c_isFarm C W.1, c_isSeason, c_isPlace, r_isGauge H W.1, r_isTerm H W.1, r_isFarm H W.1, r_isSeason, r_isWeek, r_isPlace, r_isSheet, ci1, ri1, ci2, ri2, ci3, ri3, ci4, ri4, ci5, ri5, ci11, ri11, ci16, ri16, ci98, ri98, ci99, ri99, ci198, ri198, ci9999, ri9999, oa, ob, oc, od], I⟩
  rcases okC e (n := 2) (by decide) with oe | ⟨oe, w, hw, rfl⟩
  · exact ⟨-9223372036854775808, h, by simp only [f_X11_mean, f_X11_isOffer, obs, b10, b01, bm, if_true_, if_false_, eq_self, not_true_eq_false, not_false_eq_true, true_or, or_true, or_false, false_or, and_true, true_and, and_false, false_and, or_self, and_self, Bool.false_eq_true, ite_self, n25, n20, n24, n100, kk1 C, RS.kk H, c_isGauge C W.1, c_isTerm C W.1, c_isFarm C W.1, c_isSeason, c_isPlace, r_isGauge H W.1, r_isTerm H W.1, r_isFarm H W.1, r_isSeason, r_isWeek, r_isPlace, r_isSheet, ci1, ri1, ci2, ri2, ci3, ri3, ci4, ri4, ci5, ri5, ci11, ri11, ci16, ri16, ci98, ri98, ci99, ri99, ci198, ri198, ci9999, ri9999, oa, ob, oc, od, oe], by simp only [f_X12_mean, f_X12_isAsked, obs, b10, b01, bm, if_true_, if_false_, eq_self, not_true_eq_false, not_false_eq_true, true_or, or_true, or_false, false_or, and_true, true_and, and_false, false_and, or_self, and_self, Bool.false_eq_true, ite_self, n25, n20, n24, n100, kk1 C, RS.kk H, c_isGauge C W.1, c_isTerm C W.1, c_isFarm C W.1, c_isSeason, c_isPlace, r_isGauge H W.1, r_isTerm H W.1, r_isFarm H W.1, r_isSeason, r_isWeek, r_isPlace, r_isSheet, ci1, ri1, ci2, ri2, ci3, ri3, ci4, ri4, ci5, ri5, ci11, ri11, ci16, ri16, ci98, ri98, ci99, ri99, ci198, ri198, ci9999, ri9999, oa, ob, oc, od, oe], I⟩
  have hkn := knN_le (σ := σ) (g := g)
  have hpl := paid_le W (g := g) (k := k) ht hp
  obtain ⟨h1, e1, S1, hr⟩ := c_gatherPays (N := N) C W ht hg hp hk (by omega)
  have I' := I.scr S1
  have H' := I'.2.1
  have C' := I'.1
  by_cases q : knN σ g = 0
  · refine ⟨-9223372036854775808, h1, ?_, ?_, I'⟩
    · simp (disch := omega) only [f_X11_mean, f_X11_isOffer, obs, b10, b01, bm, if_true_, if_false_, eq_self, not_true_eq_false, not_false_eq_true, true_or, or_true, or_false, false_or, and_true, true_and, and_false, false_and, or_self, and_self, Bool.false_eq_true, ite_self, n25, n20, n24, n100, kk1 C, RS.kk H, c_isGauge C W.1, c_isTerm C W.1, c_isFarm C W.1, c_isSeason, c_isPlace, r_isGauge H W.1, r_isTerm H W.1, r_isFarm H W.1, r_isSeason, r_isWeek, r_isPlace, r_isSheet, ci1, ri1, ci2, ri2, ci3, ri3, ci4, ri4, ci5, ri5, ci11, ri11, ci16, ri16, ci98, ri98, ci99, ri99, ci198, ri198, ci9999, ri9999, oa, ob, oc, od, oe, e1, q, nI_0]
    · simp (disch := omega) only [f_X12_mean, f_X12_isAsked, obs, b10, b01, bm, if_true_, if_false_, eq_self, not_true_eq_false, not_false_eq_true, true_or, or_true, or_false, false_or, and_true, true_and, and_false, false_and, or_self, and_self, Bool.false_eq_true, ite_self, n25, n20, n24, n100, RS.kk H', ri1, ri3, ri5, r_isTerm H' W.1, r_isGauge H' W.1, oa, ob, oc, od, oe, r_knowns H' W, q, nI_0]
  · have q2 : ¬ nI (knN σ g) = 0 := nI_ne0 (by omega) (by omega)
    obtain ⟨v, v1, v2⟩ := part_eq (N := N) (h := h1) (h' := h1) (p2 := nI w) (absN (A := paidN σ g t p k) (by omega)) (by omega) (show 0 < knN σ g by omega) (by omega) (by omega)
    refine ⟨v, h1, ?_, ?_, I'⟩
    · simp (disch := first | omega | assumption) only [f_X11_mean, f_X11_isOffer, obs, b10, b01, bm, if_true_, if_false_, eq_self, not_true_eq_false, not_false_eq_true, true_or, or_true, or_false, false_or, and_true, true_and, and_false, false_and, or_self, and_self, Bool.false_eq_true, ite_self, n25, n20, n24, n100, kk1 C, RS.kk H, c_isGauge C W.1, c_isTerm C W.1, c_isFarm C W.1, c_isSeason, c_isPlace, r_isGauge H W.1, r_isTerm H W.1, r_isFarm H W.1, r_isSeason, r_isWeek, r_isPlace, r_isSheet, ci1, ri1, ci2, ri2, ci3, ri3, ci4, ri4, ci5, ri5, ci11, ri11, ci16, ri16, ci98, ri98, ci99, ri99, ci198, ri198, ci9999, ri9999, oa, ob, oc, od, oe, e1, q2, c_sumOfPays C' W hr, nI_l, v1]
    · simp (disch := omega) only [f_X12_mean, f_X12_isAsked, obs, b10, b01, bm, if_true_, if_false_, eq_self, not_true_eq_false, not_false_eq_true, true_or, or_true, or_false, false_or, and_true, true_and, and_false, false_and, or_self, and_self, Bool.false_eq_true, ite_self, n25, n20, n24, n100, RS.kk H', ri1, ri3, ri5, r_isTerm H' W.1, r_isGauge H' W.1, oa, ob, oc, od, oe, r_knowns H' W, q2, r_paid H' W, nI_l, v2]
theorem pub_layer {a b c d : Int32} (I : INV L xs h σ tr u n) (hN : 2000 < N) : ∃ v h1, f_X11_layer h N 1 a b c d = some (v, h1) ∧ f_X12_layer h1 N 100 a b c d = some v ∧ INV L xs h1 σ tr u n := by
  obtain ⟨C, H, W, X, S, U⟩ := id I
  have hG := W.1.g
  have hT := W.1.t
  have hF := W.1.f
  have hTl := W.1.tl
  rcases okC a (n := 16) (by decide) with oa | ⟨oa, s, hs, rfl⟩
  · exact ⟨-1, h, by simp only [f_X11_layer, obs, b10, b01, bm, if_true_, if_false_, eq_self, not_true_eq_false, not_false_eq_true, true_or, or_true, or_false, false_or, and_true, true_and, and_false, false_and, or_self, and_self, Bool.false_eq_true, ite_self, n25, n20, n24, n100, kk1 C, RS.kk H, c_isGauge C W.1, c_isTerm C W.1, c_isFarm C W.1, c_isSeason, c_isPlace, r_isGauge H W.1, r_isTerm H W.1, r_isFarm H W.1, r_isSeason, r_isWeek, r_isPlace, r_isSheet, ci1, ri1, ci2, ri2, ci3, ri3, ci4, ri4, ci5, ri5, ci11, ri11, ci16, ri16, ci98, ri98, ci99, ri99, ci198, ri198, ci9999, ri9999, oa], by simp only [f_X12_layer, obs, b10, b01, bm, if_true_, if_false_, eq_self, not_true_eq_false, not_false_eq_true, true_or, or_true, or_false, false_or, and_true, true_and, and_false, false_and, or_self, and_self, Bool.false_eq_true, ite_self, n25, n20, n24, n100, kk1 C, RS.kk H, c_isGauge C W.1, c_isTerm C W.1, c_isFarm C W.1, c_isSeason, c_isPlace, r_isGauge H W.1, r_isTerm H W.1, r_isFarm H W.1, r_isSeason, r_isWeek, r_isPlace, r_isSheet, ci1, ri1, ci2, ri2, ci3, ri3, ci4, ri4, ci5, ri5, ci11, ri11, ci16, ri16, ci98, ri98, ci99, ri99, ci198, ri198, ci9999, ri9999, oa], I⟩
  rcases okC b (n := 16) (by decide) with ob | ⟨ob, q, hq, rfl⟩
  · exact ⟨-1, h, by simp only [f_X11_layer, obs, b10, b01, bm, if_true_, if_false_, eq_self, not_true_eq_false, not_false_eq_true, true_or, or_true, or_false, false_or, and_true, true_and, and_false, false_and, or_self, and_self, Bool.false_eq_true, ite_self, n25, n20, n24, n100, kk1 C, RS.kk H, c_isGauge C W.1, c_isTerm C W.1, c_isFarm C W.1, c_isSeason, c_isPlace, r_isGauge H W.1, r_isTerm H W.1, r_isFarm H W.1, r_isSeason, r_isWeek, r_isPlace, r_isSheet, ci1, ri1, ci2, ri2, ci3, ri3, ci4, ri4, ci5, ri5, ci11, ri11, ci16, ri16, ci98, ri98, ci99, ri99, ci198, ri198, ci9999, ri9999, oa, ob], by simp only [f_X12_layer, obs, b10, b01, bm, if_true_, if_false_, eq_self, not_true_eq_false, not_false_eq_true, true_or, or_true, or_false, false_or, and_true, true_and, and_false, false_and, or_self, and_self, Bool.false_eq_true, ite_self, n25, n20, n24, n100, kk1 C, RS.kk H, c_isGauge C W.1, c_isTerm C W.1, c_isFarm C W.1, c_isSeason, c_isPlace, r_isGauge H W.1, r_isTerm H W.1, r_isFarm H W.1, r_isSeason, r_isWeek, r_isPlace, r_isSheet, ci1, ri1, ci2, ri2, ci3, ri3, ci4, ri4, ci5, ri5, ci11, ri11, ci16, ri16, ci98, ri98, ci99, ri99, ci198, ri198, ci9999, ri9999, oa, ob], I⟩
  have hl : (0 < lg_cmp d.toInt64 2000000000) ↔ (2000000000 : Int32) < d := by
    have e : (2000000000 : Int64) = (2000000000 : Int32).toInt64 := by decide
    have e2 : (d.toInt64 > (2000000000 : Int32).toInt64) ↔ (2000000000 : Int32) < d := by
      show (2000000000 : Int32).toInt64 < d.toInt64 ↔ _
      rw [Int64.lt_iff_toInt_lt, Int32.toInt_toInt64, Int32.toInt_toInt64, ← Int32.lt_iff_toInt_lt]
    unfold lg_cmp
    rw [e]
    by_cases q : (2000000000 : Int32) < d
    · rw [if_pos (e2.mpr q)]
      exact ⟨fun _ => q, fun _ => by decide⟩
    · rw [if_neg (fun z => q (e2.mp z))]
      constructor
      · intro z
        exfalso
        split at z
        · exact absurd z (by decide)
        · exact absurd z (by decide)
      · intro z; exact absurd z q
  by_cases q1 : c < 0
  · refine ⟨-2, h, ?_, ?_, I⟩
    · simp only [f_X11_layer, f_X11_within, obs, b10, b01, bm, if_true_, if_false_, eq_self, not_true_eq_false, not_false_eq_true, true_or, or_true, or_false, false_or, and_true, true_and, and_false, false_and, or_self, and_self, Bool.false_eq_true, ite_self, n25, n20, n24, n100, kk1 C, c_isSeason, oa, ob, q1]
    · simp only [f_X12_layer, obs, b10, b01, bm, if_true_, if_false_, eq_self, not_true_eq_false, not_false_eq_true, true_or, or_true, or_false, false_or, and_true, true_and, and_false, false_and, or_self, and_self, Bool.false_eq_true, ite_self, n25, n20, n24, n100, RS.kk H, r_isSeason, oa, ob, q1]
  by_cases q2 : (2000000000 : Int32) < d
  · refine ⟨-2, h, ?_, ?_, I⟩
    · by_cases q5 : (2000000000 : Int32) < c <;> simp only [f_X11_layer, f_X11_within, obs, b10, b01, bm, if_true_, if_false_, eq_self, not_true_eq_false, not_false_eq_true, true_or, or_true, or_false, false_or, and_true, true_and, and_false, false_and, or_self, and_self, Bool.false_eq_true, ite_self, n25, n20, n24, n100, kk1 C, c_isSeason, oa, ob, q1, q2, q5]
    · simp only [f_X12_layer, obs, b10, b01, bm, if_true_, if_false_, eq_self, not_true_eq_false, not_false_eq_true, true_or, or_true, or_false, false_or, and_true, true_and, and_false, false_and, or_self, and_self, Bool.false_eq_true, ite_self, n25, n20, n24, n100, RS.kk H, r_isSeason, oa, ob, q1, hl, q2]
  by_cases q3 : c ≤ d
  · have q4 : ¬ d < c := Int32.not_lt.mpr q3
    have q5 : ¬ (2000000000 : Int32) < c := fun z => q2 (Int32.lt_of_lt_of_le z q3)
    obtain ⟨h1, e1, S1, -⟩ := c_totalOf (N := N) C W hs hq (by omega)
    have I' := I.scr S1
    have H' := I'.2.1
    have hz : ¬ (d - c) < 0 := by
      rw [Int32.lt_iff_toInt_lt, i3_sub (by
        rw [Int32.lt_iff_toInt_lt] at q1
        rw [Int32.lt_iff_toInt_lt, show (2000000000 : Int32).toInt = 2000000000 by decide] at q2
        rw [Int32.le_iff_toInt_le] at q3
        rw [show (0 : Int32).toInt = 0 by decide] at q1
        omega) (by
        rw [Int32.lt_iff_toInt_lt] at q1
        rw [Int32.lt_iff_toInt_lt, show (2000000000 : Int32).toInt = 2000000000 by decide] at q2
        rw [show (0 : Int32).toInt = 0 by decide] at q1
        omega), show (0 : Int32).toInt = 0 by decide]
      rw [Int32.le_iff_toInt_le] at q3
      omega
    refine ⟨(if (d - c) < (if (totalO σ s q - c) < 0 then 0 else (totalO σ s q - c)) then (d - c) else (if (totalO σ s q - c) < 0 then 0 else (totalO σ s q - c))), h1, ?_, ?_, I'⟩
    · simp only [f_X11_layer, f_X11_within, obs, b10, b01, bm, if_true_, if_false_, eq_self, not_true_eq_false, not_false_eq_true, true_or, or_true, or_false, false_or, and_true, true_and, and_false, false_and, or_self, and_self, Bool.false_eq_true, ite_self, n25, n20, n24, n100, kk1 C, c_isSeason, oa, ob, q1, q2, q4, q5, e1]
    · by_cases y1 : (totalO σ s q - c) < 0
      · have y2 : ¬ 0 ≤ totalO σ s q - c := Int32.not_le.mpr y1
        simp (disch := omega) only [f_X12_layer, obs, b10, b01, bm, if_true_, if_false_, eq_self, not_true_eq_false, not_false_eq_true, true_or, or_true, or_false, false_or, and_true, true_and, and_false, false_and, or_self, and_self, Bool.false_eq_true, ite_self, n25, n20, n24, n100, RS.kk H', r_isSeason, oa, ob, q1, hl, q2, q3, r_totalOf H' W, y1, y2, hz]
      · have y2 : 0 ≤ totalO σ s q - c := Int32.not_lt.mp y1
        by_cases y3 : totalO σ s q - c ≤ d - c
        · have y4 : ¬ d - c < totalO σ s q - c := Int32.not_lt.mpr y3
          simp (disch := omega) only [f_X12_layer, obs, b10, b01, bm, if_true_, if_false_, eq_self, not_true_eq_false, not_false_eq_true, true_or, or_true, or_false, false_or, and_true, true_and, and_false, false_and, or_self, and_self, Bool.false_eq_true, ite_self, n25, n20, n24, n100, RS.kk H', r_isSeason, oa, ob, q1, hl, q2, q3, r_totalOf H' W, y1, y2, y3, y4]
        · have y4 : d - c < totalO σ s q - c := Int32.not_le.mp y3
          simp (disch := omega) only [f_X12_layer, obs, b10, b01, bm, if_true_, if_false_, eq_self, not_true_eq_false, not_false_eq_true, true_or, or_true, or_false, false_or, and_true, true_and, and_false, false_and, or_self, and_self, Bool.false_eq_true, ite_self, n25, n20, n24, n100, RS.kk H', r_isSeason, oa, ob, q1, hl, q2, q3, r_totalOf H' W, y1, y2, y3, y4]
  · have q4 : d < c := Int32.not_le.mp q3
    refine ⟨-2, h, ?_, ?_, I⟩
    · by_cases q5 : (2000000000 : Int32) < c <;> simp only [f_X11_layer, f_X11_within, obs, b10, b01, bm, if_true_, if_false_, eq_self, not_true_eq_false, not_false_eq_true, true_or, or_true, or_false, false_or, and_true, true_and, and_false, false_and, or_self, and_self, Bool.false_eq_true, ite_self, n25, n20, n24, n100, kk1 C, c_isSeason, oa, ob, q1, q2, q4, q5]
    · simp only [f_X12_layer, obs, b10, b01, bm, if_true_, if_false_, eq_self, not_true_eq_false, not_false_eq_true, true_or, or_true, or_false, false_or, and_true, true_and, and_false, false_and, or_self, and_self, Bool.false_eq_true, ite_self, n25, n20, n24, n100, RS.kk H, r_isSeason, oa, ob, q1, hl, q2, q3]
def besS (σ : SG) (t t2 g p k w s : Nat) (x : Int32) : Int32 := if knowO σ g s then
  (if (if nI (payN σ g t p k s) ≤ 0 then (if nI (payN σ g t2 p k s) ≤ 0 then (3 : Int32) else 1) else (if nI (payN σ g t2 p k s) ≤ 0 then 0 else 2)) = nI w then x + 1 else x) else x
theorem pub_beside {a b c d e f : Int32} (I : INV L xs h σ tr u n) (hN : 2000 < N) : ∃ v h1, f_X11_beside h N 1 a b c d e f = some (v, h1) ∧ f_X12_beside h1 N 100 a b c d e f = some v ∧ INV L xs h1 σ tr u n := by
  obtain ⟨C, H, W, X, S, U⟩ := id I
  have hG := W.1.g
  have hT := W.1.t
  have hF := W.1.f
  have hTl := W.1.tl
  by_cases hall : ok a (cn σ 13) = true ∧ ok b (cn σ 13) = true ∧ ok c (cn σ 0) = true ∧ ok d 6 = true ∧ ok e 4 = true ∧ ok f 4 = true
  · obtain ⟨oa, ob, oc, od, oe, of⟩ := hall
    obtain ⟨t, ht, rfl⟩ := ok_of (by omega) oa
    obtain ⟨t2, ht2, rfl⟩ := ok_of (by omega) ob
    obtain ⟨g, hg, rfl⟩ := ok_of (by omega) oc
    obtain ⟨p, hp, rfl⟩ := ok_of (by decide) od
    obtain ⟨k, hk, rfl⟩ := ok_of (by decide) oe
    obtain ⟨w, hw, rfl⟩ := ok_of (by decide) of
    obtain ⟨h1, e1, S1⟩ : ∃ h1, f_X11_beside_b39 N N h 1 (nI t) (nI t2) (nI g) (nI p) (nI k) (nI w) 0 0 = some (itr (besS σ t t2 g p k w) 0 16 0, h1) ∧ SCR h h1 := by
      refine (lpS (σ := AH) (α := Int32) (fun n i h x => f_X11_beside_b39 N n h 1 (nI t) (nI t2) (nI g) (nI p) (nI k) (nI w) x (nI i)) (besS σ t t2 g p k w) 16 (fun h' x => some (x, h')) (fun i h' _ => SCR h h') ?_ ?_ 16 N 0 h 0 (by omega) (by omega) SCR.refl).elim (fun h' e => ⟨h', e.1, e.2⟩)
      · intro n h' x _
        simp (disch := omega) only [f_X11_beside_b39, f_X11_beside_b39_body, obs, b10, b01, bm, if_true_, if_false_, eq_self, not_true_eq_false, not_false_eq_true, true_or, or_true, or_false, false_or, and_true, true_and, and_false, false_and, or_self, and_self, Bool.false_eq_true, ite_self, n25, n20, n24, n100, lt16, nI_leI, Nat.le_refl]
      · intro n i h' x hi S
        have C' := C.scr S
        have hn : ¬ 16 ≤ i := by omega
        rcases q : knowO σ g i
        · exact ⟨h', by simp (disch := omega) only [f_X11_beside_b39, f_X11_beside_b39_body, f_X11_beside_b151, obs, b10, b01, bm, if_true_, if_false_, eq_self, not_true_eq_false, not_false_eq_true, true_or, or_true, or_false, false_or, and_true, true_and, and_false, false_and, or_self, and_self, Bool.false_eq_true, ite_self, n25, n20, n24, n100, lt16, nI_leI, hn, c_isKnown C' W, q, besS, nI_1], S⟩
        · obtain ⟨h2, e2, S2, -⟩ := c_payN (N := N) C' W ht hg hi hp hk (by omega)
          have C2 := C'.scr S2
          obtain ⟨h3, e3, S3, -⟩ := c_payN (N := N) C2 W ht2 hg hi hp hk (by omega)
          refine ⟨h3, ?_, (S.trans S2).trans S3⟩
          by_cases y1 : nI (payN σ g t p k i) ≤ 0 <;> by_cases y2 : nI (payN σ g t2 p k i) ≤ 0 <;> simp (disch := omega) only [f_X11_beside_b39, f_X11_beside_b39_body, f_X11_beside_b83, f_X11_beside_b109, f_X11_beside_b139, f_X11_beside_b151, obs, b10, b01, bm, if_true_, if_false_, eq_self, not_true_eq_false, not_false_eq_true, true_or, or_true, or_false, false_or, and_true, true_and, and_false, false_and, or_self, and_self, Bool.false_eq_true, ite_self, n25, n20, n24, n100, lt16, nI_leI, hn, c_isKnown C' W, q, c_now C' W.1, c_now C2 W.1, e2, e3, y1, y2, besS, nI_1] <;> split <;> rfl
    have I' := I.scr S1
    have H' := I'.2.1
    refine ⟨itr (besS σ t t2 g p k w) 0 16 0, h1, ?_, ?_, I'⟩
    · simp (disch := omega) only [f_X11_beside, f_X11_isOffer, obs, b10, b01, bm, if_true_, if_false_, eq_self, not_true_eq_false, not_false_eq_true, true_or, or_true, or_false, false_or, and_true, true_and, and_false, false_and, or_self, and_self, Bool.false_eq_true, ite_self, n25, n20, n24, n100, kk1 C, RS.kk H, c_isGauge C W.1, c_isTerm C W.1, c_isFarm C W.1, c_isSeason, c_isPlace, r_isGauge H W.1, r_isTerm H W.1, r_isFarm H W.1, r_isSeason, r_isWeek, r_isPlace, r_isSheet, ci1, ri1, ci2, ri2, ci3, ri3, ci4, ri4, ci5, ri5, ci11, ri11, ci16, ri16, ci98, ri98, ci99, ri99, ci198, ri198, ci9999, ri9999, oa, ob, oc, od, oe, of, e1]
    · simp (disch := omega) only [f_X12_beside, f_X12_isAsked, obs, b10, b01, bm, if_true_, if_false_, eq_self, not_true_eq_false, not_false_eq_true, true_or, or_true, or_false, false_or, and_true, true_and, and_false, false_and, or_self, and_self, Bool.false_eq_true, ite_self, n25, n20, n24, n100, RS.kk H', ri3, ri5, r_isTerm H' W.1, r_isGauge H' W.1, oa, ob, oc, od, oe, of]
      refine lpB (fun n i x => f_X12_beside_b39 h1 N n 100 (nI t) (nI t2) (nI g) (nI p) (nI k) (nI w) x (nI i)) (besS σ t t2 g p k w) 16 (fun x => some x) ?_ ?_ (m := 16) (i := 0) rfl (by omega)
      · intro n x
        simp (disch := omega) only [f_X12_beside_b39, f_X12_beside_b39_body, obs, b10, b01, bm, if_true_, if_false_, eq_self, not_true_eq_false, not_false_eq_true, true_or, or_true, or_false, false_or, and_true, true_and, and_false, false_and, or_self, and_self, Bool.false_eq_true, ite_self, n25, n20, n24, n100, lt16, nI_leI, Nat.le_refl]
      · intro n i x hi
        have hn : ¬ 16 ≤ i := by omega
        rcases q : knowO σ g i
        · simp (disch := omega) only [f_X12_beside_b39, f_X12_beside_b39_body, f_X12_beside_b149, obs, b10, b01, bm, if_true_, if_false_, eq_self, not_true_eq_false, not_false_eq_true, true_or, or_true, or_false, false_or, and_true, true_and, and_false, false_and, or_self, and_self, Bool.false_eq_true, ite_self, n25, n20, n24, n100, lt16, nI_leI, hn, r_isKnown H' W, q, besS, nI_1]
        · by_cases y1 : nI (payN σ g t p k i) ≤ 0 <;> by_cases y2 : nI (payN σ g t2 p k i) ≤ 0 <;> simp (disch := omega) only [f_X12_beside_b39, f_X12_beside_b39_body, f_X12_beside_b77, f_X12_beside_b100, f_X12_beside_b130, f_X12_beside_b146, f_X12_beside_b149, obs, b10, b01, bm, if_true_, if_false_, eq_self, not_true_eq_false, not_false_eq_true, true_or, or_true, or_false, false_or, and_true, true_and, and_false, false_and, or_self, and_self, Bool.false_eq_true, ite_self, n25, n20, n24, n100, lt16, nI_leI, hn, r_isKnown H' W, q, r_payN H' W, y1, y2, besS, Int32.add_zero, nI_1] <;> split <;> rfl
  · refine ⟨-1, h, ?_, ?_, I⟩
    · rcases oa : ok a (cn σ 13) <;> rcases ob : ok b (cn σ 13) <;> rcases oc : ok c (cn σ 0) <;> rcases od : ok d 6 <;> rcases oe : ok e 4 <;> rcases of : ok f 4 <;> first | (simp only [f_X11_beside, f_X11_isOffer, obs, b10, b01, bm, if_true_, if_false_, eq_self, not_true_eq_false, not_false_eq_true, true_or, or_true, or_false, false_or, and_true, true_and, and_false, false_and, or_self, and_self, Bool.false_eq_true, ite_self, n25, n20, n24, n100, kk1 C, RS.kk H, c_isGauge C W.1, c_isTerm C W.1, c_isFarm C W.1, c_isSeason, c_isPlace, r_isGauge H W.1, r_isTerm H W.1, r_isFarm H W.1, r_isSeason, r_isWeek, r_isPlace, r_isSheet, ci1, ri1, ci2, ri2, ci3, ri3, ci4, ri4, ci5, ri5, ci11, ri11, ci16, ri16, ci98, ri98, ci99, ri99, ci198, ri198, ci9999, ri9999, oa, ob, oc, od, oe, of]; done) | (exact absurd ⟨oa, ob, oc, od, oe, of⟩ hall)
    · rcases oa : ok a (cn σ 13) <;> rcases ob : ok b (cn σ 13) <;> rcases oc : ok c (cn σ 0) <;> rcases od : ok d 6 <;> rcases oe : ok e 4 <;> rcases of : ok f 4 <;> first | (simp only [f_X12_beside, f_X12_isAsked, obs, b10, b01, bm, if_true_, if_false_, eq_self, not_true_eq_false, not_false_eq_true, true_or, or_true, or_false, false_or, and_true, true_and, and_false, false_and, or_self, and_self, Bool.false_eq_true, ite_self, n25, n20, n24, n100, kk1 C, RS.kk H, c_isGauge C W.1, c_isTerm C W.1, c_isFarm C W.1, c_isSeason, c_isPlace, r_isGauge H W.1, r_isTerm H W.1, r_isFarm H W.1, r_isSeason, r_isWeek, r_isPlace, r_isSheet, ci1, ri1, ci2, ri2, ci3, ri3, ci4, ri4, ci5, ri5, ci11, ri11, ci16, ri16, ci98, ri98, ci99, ri99, ci198, ri198, ci9999, ri9999, oa, ob, oc, od, oe, of]; done) | (exact absurd ⟨oa, ob, oc, od, oe, of⟩ hall)
end
