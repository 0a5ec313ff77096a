/-! ===== prices, totals ===== -/
section
variable {L N : Nat} {xs : Nat → Int32} {h h' : AH} {σ σ' : SG} {tr : Nat → Nat} {u n : Nat}

theorem psR_ne (W : WV σ) {g t p k s : Nat} (ht : t < cn σ 13) (hp : p < 6) : (psR σ g t p k s = -1) = (knowO σ g s = false) := by
  unfold psR
  have := (payN_ok W (g := g) (k := k) (s := s) ht hp).1
  rcases knowO σ g s
  · simp
  · rw [if_pos rfl, nI_negF (by omega)]; simp
theorem c_sumOfPays (C : CS h σ tr u) (W : WV σ) {g t p k : Nat} (hr : ∀ s, s < 16 → ai h 28 s = psR σ g t p k s) (ht : t < cn σ 13) (hp : p < 6) (hN : 100 < N) : f_X11_sumOfPays h N 1 = some (lN (paidN σ g t p k)) := by
  have hx : ∀ {s : Nat}, s < 16 → xia h 28 (nI s) = some (psR σ g t p k s) := fun hs => xia_of (kk28 C) (kl C (by decide)) hs (by decide) (hr _ hs)
  unfold f_X11_sumOfPays
  rw [if_pos (kk1 C)]
  refine lpB (fun n i x => f_X11_sumOfPays_b4 h N n 1 (lN x) (nI i)) (pdC σ g t p k) 16 (fun x => some (lN x)) ?_ ?_ (m := 16) (i := 0) (a := 0) rfl (by omega)
  · intro n x
    simp (disch := omega) only [f_X11_sumOfPays_b4, f_X11_sumOfPays_b4_body, obs, b10, b01, bm, if_true_, if_false_, eq_self, not_true_eq_false, not_false_eq_true, true_or, or_true, or_false, false_or, and_true, true_and, and_false, false_and, or_self, and_self, Bool.false_eq_true, ite_self, n25, n20, n24, n100, lt16, nI_leI, Nat.le_refl]
  · intro n i x hi
    have hn : ¬ 16 ≤ i := by omega
    have hp2 := (payN_ok W (g := g) (k := k) (s := i) ht hp).1
    have hne := psR_ne W (g := g) (k := k) (s := i) ht hp
    rcases q : knowO σ g i
    · have q1 : psR σ g t p k i = -1 := by rw [hne]; exact q
      simp (disch := omega) only [f_X11_sumOfPays_b4, f_X11_sumOfPays_b4_body, f_X11_sumOfPays_b30, obs, b10, b01, bm, if_true_, if_false_, eq_self, not_true_eq_false, not_false_eq_true, true_or, or_true, or_false, false_or, and_true, true_and, and_false, false_and, or_self, and_self, Bool.false_eq_true, ite_self, n25, n20, n24, n100, lt16, nI_leI, hn, kr1_18 C, hx, q1, pdC, q, nI_1]
    · have q1 : psR σ g t p k i = nI (payN σ g t p k i) := by unfold psR; rw [q]; rfl
      simp (disch := omega) only [f_X11_sumOfPays_b4, f_X11_sumOfPays_b4_body, f_X11_sumOfPays_b30, obs, b10, b01, bm, if_true_, if_false_, eq_self, not_true_eq_false, not_false_eq_true, true_or, or_true, or_false, false_or, and_true, true_and, and_false, false_and, or_self, and_self, Bool.false_eq_true, ite_self, n25, n20, n24, n100, lt16, nI_leI, hn, kr1_18 C, hx, q1, nI_negF, nI_l, lN_add, pdC, q, nI_1]
def prN (σ : SG) (g t p k : Nat) : Nat := if knN σ g = 0 then 0 else (paidN σ g t p k * (100 + (σ.2 5 2).toNatClampNeg) + 100 * knN σ g - 1) / (100 * knN σ g)
theorem pr_le (W : WV σ) {g t p k : Nat} (ht : t < cn σ 13) (hp : p < 6) : prN σ g t p k < 50000 := by
  have h1 := paid_le W (g := g) (k := k) ht hp
  obtain ⟨-, h2⟩ := bd_cl W.2.2.1.2.2.1 (by decide)
  unfold prN
  split
  · omega
  · rename_i q
    rw [Nat.div_lt_iff_lt_mul (by omega)]
    have h3 : paidN σ g t p k * (100 + (σ.2 5 2).toNatClampNeg) ≤ 9999 * knN σ g * 400 := Nat.mul_le_mul h1 (by omega)
    omega
theorem pr_b (W : WV σ) {g t p k : Nat} (ht : t < cn σ 13) (hp : p < 6) : paidN σ g t p k * (100 + (σ.2 5 2).toNatClampNeg) ≤ 63993600 := by
  have h1 := paid_le W (g := g) (k := k) ht hp
  have h2 := knN_le (σ := σ) (g := g)
  obtain ⟨-, h3⟩ := bd_cl W.2.2.1.2.2.1 (by decide)
  have h4 : paidN σ g t p k * (100 + (σ.2 5 2).toNatClampNeg) ≤ 159984 * 400 := Nat.mul_le_mul (by omega) (by omega)
  omega
theorem r_priceOf (H : RS h σ) (W : WV σ) {g t p k : Nat} (ht : t < cn σ 13) (hg : g < cn σ 0) (hp : p < 6) (hk : k < 4) (hN : 100 < N) : f_X12_priceOf h N 100 (nI t) (nI g) (nI p) (nI k) = some (nI (prN σ g t p k)) := by
  have hG := W.1.g
  have hkn := knN_le (σ := σ) (g := g)
  have hb := pr_b W (g := g) (k := k) ht hp
  obtain ⟨l, hl, el⟩ := W.2.2.1.2.2.1
  have e5 : xia h 105 2 = some (σ.2 5 2) := ra5 H (n := 2) (by omega)
  rw [el, nI_clamp (by omega)] at hb
  unfold f_X12_priceOf prN
  rw [if_pos H.1, r_knowns H W (by omega) hN, obs, el, nI_clamp (by omega), lt100, nI_mul]
  by_cases q : knN σ g = 0
  · rw [q, if_pos (by decide), if_pos rfl]; rfl
  · have q2 : ¬ nI (100 * knN σ g) = 0 := nI_ne0 (by omega) (by omega)
    rw [if_neg q2, if_neg q, r_paid H W ht hg hp hk hN, obs, rg5 H, obs, e5, obs, if_neg q2, el, nI_add, nI_mul, nI_add, show (1 : Int32) = nI 1 by decide, nI_sub (by omega), nI_div (by omega) (by omega)]
theorem lg0 {b : Nat} (hb : 0 < b) (hb2 : b < 2 ^ 63) : 0 < lg_cmp (lN b) 0 := by
  have e : (0 : Int64) = lN 0 := by decide
  unfold lg_cmp
  rw [e, if_pos (show lN b > lN 0 from (pk_lLT (by omega) hb2).mpr hb)]
  decide
theorem c_roundedUp {h : AH} {a b : Nat} (ha : a < 2 ^ 31) (hb : 0 < b) (hb2 : b < 2 ^ 31) : f_X11_roundedUp h (lN a) (lN b) = some (nI ((a + b - 1) / b)) := by
  have e1 : (1 : Int64) = lN 1 := by decide
  have e0 : ¬ lN b = 0 := by
    rw [show (0 : Int64) = lN 0 by decide, pk_lEQ (by omega) (by omega)]
    omega
  unfold f_X11_roundedUp
  rw [if_pos (lg0 hb (by omega)), if_neg e0, lN_add, e1, lN_sub (by omega), pk_lDiv (by omega) hb (by omega), lN_i]
theorem c_priceOf (C : CS h σ tr u) (W : WV σ) {g t p k : Nat} (ht : t < cn σ 13) (hg : g < cn σ 0) (hp : p < 6) (hk : k < 4) (hN : 1000 < N) : ∃ h', f_X11_priceOf h N 1 (nI t) (nI g) (nI p) (nI k) = some (nI (prN σ g t p k), h') ∧ SCR h h' := by
  have hG := W.1.g
  have hkn := knN_le (σ := σ) (g := g)
  have hb := pr_b W (g := g) (k := k) ht hp
  obtain ⟨l, hl, el⟩ := W.2.2.1.2.2.1
  rw [el, nI_clamp (by omega)] at hb
  obtain ⟨h1, e1, S, hr⟩ := c_gatherPays (N := N) C W ht hg hp hk hN
  have C1 := C.scr S
  have e5 : xia h1 16 2 = some (σ.2 5 2) := kx16 C1 (j := 2) (by omega)
  refine ⟨h1, ?_, S⟩
  unfold f_X11_priceOf prN
  rw [if_pos (kk1 C), e1, obs, el, nI_clamp (by omega)]
  by_cases q : knN σ g = 0
  · rw [q, if_pos nI_0, if_pos rfl]; rfl
  · rw [if_neg (nI_ne0 (by omega) (by omega)), if_neg q, c_sumOfPays C1 W hr ht hp (by omega), obs, kr1_6 C1, obs, e5, obs, el, lt100, nI_add, nI_l (by omega), lN_mul, nI_l (by omega), show (100 : Int64) = lN 100 by decide, lN_mul, c_roundedUp (by omega) (by omega) (by omega), obs]
theorem pub_price {a b c d e : Int32} (I : INV L xs h σ tr u n) (hN : 2000 < N) : ∃ v h1, f_X11_price h N 1 a b c d e = some (v, h1) ∧ f_X12_price h1 N 100 a b c d e = some v ∧ INV L xs h1 σ tr u n := by
  obtain ⟨C, H, W, X, S, U⟩ := id I
  have hG := W.1.g
  have hT := W.1.t
  have hF := W.1.f
  have hTl := W.1.tl
  rcases okC a (n := cn σ 13) (by omega) with oa | ⟨oa, t, ht, rfl⟩
  · exact ⟨-1, h, by simp only [f_X11_price, f_X11_isOffer, obs, b10, b01, bm, if_true_, if_false_, eq_self, not_true_eq_false, not_false_eq_true, true_or, or_true, or_false, false_or, and_true, true_and, and_false, false_and, or_self, and_self, Bool.false_eq_true, ite_self, n25, n20, n24, n100, kk1 C, RS.kk H, c_isGauge C W.1, c_isTerm C W.1, c_isFarm C W.1, c_isSeason, c_isPlace, r_isGauge H W.1, r_isTerm H W.1, r_isFarm H W.1, r_isSeason, r_isWeek, r_isPlace, r_isSheet, ci1, ri1, ci2, ri2, ci3, ri3, ci4, ri4, ci5, ri5, ci11, ri11, ci16, ri16, ci98, ri98, ci99, ri99, ci198, ri198, ci9999, ri9999, oa], by simp only [f_X12_price, f_X12_isAsked, obs, b10, b01, bm, if_true_, if_false_, eq_self, not_true_eq_false, not_false_eq_true, true_or, or_true, or_false, false_or, and_true, true_and, and_false, false_and, or_self, and_self, Bool.false_eq_true, ite_self, n25, n20, n24, n100, kk1 C, RS.kk H, c_isGauge C W.1, c_isTerm C W.1, c_isFarm C W.1, c_isSeason, c_isPlace, r_isGauge H W.1, r_isTerm H W.1, r_isFarm H W.1, r_isSeason, r_isWeek, r_isPlace, r_isSheet, ci1, ri1, ci2, ri2, ci3, ri3, ci4, ri4, ci5, ri5, ci11, ri11, ci16, ri16, ci98, ri98, ci99, ri99, ci198, ri198, ci9999, ri9999, oa], I⟩
  rcases okC b (n := cn σ 0) (by omega) with ob | ⟨ob, g, hg, rfl⟩
  · exact ⟨-1, h, by simp only [f_X11_price, f_X11_isOffer, obs, b10, b01, bm, if_true_, if_false_, eq_self, not_true_eq_false, not_false_eq_true, true_or, or_true, or_false, false_or, and_true, true_and, and_false, false_and, or_self, and_self, Bool.false_eq_true, ite_self, n25, n20, n24, n100, kk1 C, RS.kk H, c_isGauge C W.1, c_isTerm C W.1, c_isFarm C W.1, c_isSeason, c_isPlace, r_isGauge H W.1, r_isTerm H W.1, r_isFarm H W.1, r_isSeason, r_isWeek, r_isPlace, r_isSheet, ci1, ri1, ci2, ri2, ci3, ri3, ci4, ri4, ci5, ri5, ci11, ri11, ci16, ri16, ci98, ri98, ci99, ri99, ci198, ri198, ci9999, ri9999, oa, ob], by simp only [f_X12_price, f_X12_isAsked, obs, b10, b01, bm, if_true_, if_false_, eq_self, not_true_eq_false, not_false_eq_true, true_or, or_true, or_false, false_or, and_true, true_and, and_false, false_and, or_self, and_self, Bool.false_eq_true, ite_self, n25, n20, n24, n100, kk1 C, RS.kk H, c_isGauge C W.1, c_isTerm C W.1, c_isFarm C W.1, c_isSeason, c_isPlace, r_isGauge H W.1, r_isTerm H W.1, r_isFarm H W.1, r_isSeason, r_isWeek, r_isPlace, r_isSheet, ci1, ri1, ci2, ri2, ci3, ri3, ci4, ri4, ci5, ri5, ci11, ri11, ci16, ri16, ci98, ri98, ci99, ri99, ci198, ri198, ci9999, ri9999, oa, ob], I⟩
  rcases okC c (n := 6) (by decide) with oc | ⟨oc, p, hp, rfl⟩
  · exact ⟨-1, h, by simp only [f_X11_price, f_X11_isOffer, obs, b10, b01, bm, if_true_, if_false_, eq_self, not_true_eq_false, not_false_eq_true, true_or, or_true, or_false, false_or, and_true, true_and, and_false, false_and, or_self, and_self, Bool.false_eq_true, ite_self, n25, n20, n24, n100, kk1 C, RS.kk H, c_isGauge C W.1, c_isTerm C W.1, c_isFarm C W.1, c_isSeason, c_isPlace, r_isGauge H W.1, r_isTerm H W.1, r_isFarm H W.1, r_isSeason, r_isWeek, r_isPlace, r_isSheet, ci1, ri1, ci2, ri2, ci3, ri3, ci4, ri4, ci5, ri5, ci11, ri11, ci16, ri16, ci98, ri98, ci99, ri99, ci198, ri198, ci9999, ri9999, oa, ob, oc], by simp only [f_X12_price, f_X12_isAsked, obs, b10, b01, bm, if_true_, if_false_, eq_self, not_true_eq_false, not_false_eq_true, true_or, or_true, or_false, false_or, and_true, true_and, and_false, false_and, or_self, and_self, Bool.false_eq_true, ite_self, n25, n20, n24, n100, kk1 C, RS.kk H, c_isGauge C W.1, c_isTerm C W.1, c_isFarm C W.1, c_isSeason, c_isPlace, r_isGauge H W.1, r_isTerm H W.1, r_isFarm H W.1, r_isSeason, r_isWeek, r_isPlace, r_isSheet, ci1, ri1, ci2, ri2, ci3, ri3, ci4, ri4, ci5, ri5, ci11, ri11, ci16, ri16, ci98, ri98, ci99, ri99, ci198, ri198, ci9999, ri9999, oa, ob, oc], I⟩
  rcases okC d (n := 4) (by decide) with od | ⟨od, k, hk, rfl⟩
  · exact ⟨-1, h, by simp only [f_X11_price, f_X11_isOffer, obs, b10, b01, bm, if_true_, if_false_, eq_self, not_true_eq_false, not_false_eq_true, true_or, or_true, or_false, false_or, and_true, true_and, and_false, false_and, or_self, and_self, Bool.false_eq_true, ite_self, n25, n20, n24, n100, kk1 C, RS.kk H, c_isGauge C W.1, c_isTerm C W.1, c_isFarm C W.1, c_isSeason, c_isPlace, r_isGauge H W.1, r_isTerm H W.1, r_isFarm H W.1, r_isSeason, r_isWeek, r_isPlace, r_isSheet, ci1, ri1, ci2, ri2, ci3, ri3, ci4, ri4, ci5, ri5, ci11, ri11, ci16, ri16, ci98, ri98, ci99, ri99, ci198, ri198, ci9999, ri9999, oa, ob, oc, od], by simp only [f_X12_price, f_X12_isAsked, obs, b10, b01, bm, if_true_, if_false_, eq_self, not_true_eq_false, not_false_eq_true, true_or, or_true, or_false, false_or, and_true, true_and, and_false, false_and, or_self, and_self, Bool.false_eq_true, ite_self, n25, n20, n24, n100, kk1 C, RS.kk H, c_isGauge C W.1, c_isTerm C W.1, c_isFarm C W.1, c_isSeason, c_isPlace, r_isGauge H W.1, r_isTerm H W.1, r_isFarm H W.1, r_isSeason, r_isWeek, r_isPlace, r_isSheet, ci1, ri1, ci2, ri2, ci3, ri3, ci4, ri4, ci5, ri5, ci11, ri11, ci16, ri16, ci98, ri98, ci99, ri99, ci198, ri198, ci9999, ri9999, oa, ob, oc, od], I⟩
  have z20 : ((2 : Int32) = 0) = False := by decide
  have z21 : ((2 : Int32) = 1) = False := by decide
  have z12 : ((1 : Int32) = 2) = False := by decide
  have z02 : ((0 : Int32) = 2) = False := by decide
  have o0 : ok 0 3 = true := by decide
  have o1 : ok 1 3 = true := by decide
  have o2 : ok 2 3 = true := by decide
  have hpl := pr_le W (g := g) (k := k) ht hp
  by_cases c0 : e = 0
  · subst c0
    obtain ⟨h1, e1, S1⟩ := c_priceOf (N := N) C W ht hg hp hk (by omega)
    have I' := I.scr S1
    have H' := I'.2.1
    refine ⟨nI (prN σ g t p k), h1, ?_, ?_, I'⟩
    · simp (disch := omega) only [f_X11_price, f_X11_isOffer, obs, b10, b01, bm, if_true_, if_false_, eq_self, not_true_eq_false, not_false_eq_true, true_or, or_true, or_false, false_or, and_true, true_and, and_false, false_and, or_self, and_self, Bool.false_eq_true, ite_self, n25, n20, n24, n100, kk1 C, RS.kk H, c_isGauge C W.1, c_isTerm C W.1, c_isFarm C W.1, c_isSeason, c_isPlace, r_isGauge H W.1, r_isTerm H W.1, r_isFarm H W.1, r_isSeason, r_isWeek, r_isPlace, r_isSheet, ci1, ri1, ci2, ri2, ci3, ri3, ci4, ri4, ci5, ri5, ci11, ri11, ci16, ri16, ci98, ri98, ci99, ri99, ci198, ri198, ci9999, ri9999, oa, ob, oc, od, e1]
    · simp (disch := omega) only [f_X12_price, f_X12_isAsked, obs, b10, b01, bm, if_true_, if_false_, eq_self, not_true_eq_false, not_false_eq_true, true_or, or_true, or_false, false_or, and_true, true_and, and_false, false_and, or_self, and_self, Bool.false_eq_true, ite_self, n25, n20, n24, n100, RS.kk H', ri2, ri3, ri5, r_isTerm H' W.1, r_isGauge H' W.1, oa, ob, oc, od, o0, z02, r_priceOf H' W]
  by_cases c1 : e = 1
  · subst c1
    obtain ⟨h1, e1, S1⟩ := c_priceOf (N := N) C W ht hg hp hk (by omega)
    have I' := I.scr S1
    have H' := I'.2.1
    have C' := I'.1
    obtain ⟨l, hl, el⟩ := W.2.2.1.2.2.2
    have e5 : xia h1 16 3 = some (σ.2 5 3) := kx16 C' (j := 3) (by omega)
    have e5' : xia h1 105 3 = some (σ.2 5 3) := ra5 H' (n := 3) (by omega)
    have hm : prN σ g t p k * (100 - l) ≤ 50000 * 100 := Nat.mul_le_mul (by omega) (by omega)
    have hru : f_X11_roundedUp h1 ((nI (prN σ g t p k)).toInt64 * ((100 - σ.2 5 3 : Int32)).toInt64) 100 = some (nI ((prN σ g t p k * (100 - l) + 100 - 1) / 100)) := by
      rw [el, lt100, nI_sub (by omega), nI_l (by omega), nI_l (by omega), lN_mul, show (100 : Int64) = lN 100 by decide]
      exact c_roundedUp (by omega) (by decide) (by decide)
    have hrr : (nI (prN σ g t p k) * (100 - σ.2 5 3) + 99) / 100 = nI ((prN σ g t p k * (100 - l) + 100 - 1) / 100) := by
      rw [el, lt100, lt99, nI_sub (by omega), nI_mul, nI_add, nI_div (by omega) (by decide)]
      congr 1
    refine ⟨nI ((prN σ g t p k * (100 - l) + 100 - 1) / 100), h1, ?_, ?_, I'⟩
    · simp (disch := omega) only [f_X11_price, f_X11_isOffer, obs, b10, b01, bm, if_true_, if_false_, eq_self, not_true_eq_false, not_false_eq_true, true_or, or_true, or_false, false_or, and_true, true_and, and_false, false_and, or_self, and_self, Bool.false_eq_true, ite_self, n25, n20, n24, n100, kk1 C, RS.kk H, c_isGauge C W.1, c_isTerm C W.1, c_isFarm C W.1, c_isSeason, c_isPlace, r_isGauge H W.1, r_isTerm H W.1, r_isFarm H W.1, r_isSeason, r_isWeek, r_isPlace, r_isSheet, ci1, ri1, ci2, ri2, ci3, ri3, ci4, ri4, ci5, ri5, ci11, ri11, ci16, ri16, ci98, ri98, ci99, ri99, ci198, ri198, ci9999, ri9999, oa, ob, oc, od, e1, kr1_6 C', e5, hru]
    · simp (disch := omega) only [f_X12_price, f_X12_isAsked, obs, b10, b01, bm, if_true_, if_false_, eq_self, not_true_eq_false, not_false_eq_true, true_or, or_true, or_false, false_or, and_true, true_and, and_false, false_and, or_self, and_self, Bool.false_eq_true, ite_self, n25, n20, n24, n100, RS.kk H', ri2, ri3, ri5, r_isTerm H' W.1, r_isGauge H' W.1, oa, ob, oc, od, o1, z12, r_priceOf H' W, rg5 H', e5', hrr]
  by_cases c2 : e = 2
  · subst c2
    obtain ⟨h1, e1, S1, -⟩ := c_gatherPays (N := N) C W ht hg hp hk (by omega)
    have I' := I.scr S1
    have H' := I'.2.1
    refine ⟨nI (knN σ g), h1, ?_, ?_, I'⟩
    · simp (disch := omega) only [f_X11_price, f_X11_isOffer, obs, b10, b01, bm, if_true_, if_false_, eq_self, not_true_eq_false, not_false_eq_true, true_or, or_true, or_false, false_or, and_true, true_and, and_false, false_and, or_self, and_self, Bool.false_eq_true, ite_self, n25, n20, n24, n100, kk1 C, RS.kk H, c_isGauge C W.1, c_isTerm C W.1, c_isFarm C W.1, c_isSeason, c_isPlace, r_isGauge H W.1, r_isTerm H W.1, r_isFarm H W.1, r_isSeason, r_isWeek, r_isPlace, r_isSheet, ci1, ri1, ci2, ri2, ci3, ri3, ci4, ri4, ci5, ri5, ci11, ri11, ci16, ri16, ci98, ri98, ci99, ri99, ci198, ri198, ci9999, ri9999, oa, ob, oc, od, z20, z21, e1]
    · simp (disch := omega) only [f_X12_price, f_X12_isAsked, obs, b10, b01, bm, if_true_, if_false_, eq_self, not_true_eq_false, not_false_eq_true, true_or, or_true, or_false, false_or, and_true, true_and, and_false, false_and, or_self, and_self, Bool.false_eq_true, ite_self, n25, n20, n24, n100, RS.kk H', ri2, ri3, ri5, r_isTerm H' W.1, r_isGauge H' W.1, oa, ob, oc, od, o2, r_knowns H' W]
  have oe : ok e 3 = false := by
    rcases okC e (n := 3) (by decide) with q | ⟨_, x, hx, rfl⟩
    · exact q
    · exfalso
      have : x = 0 ∨ x = 1 ∨ x = 2 := by omega
      rcases this with rfl | rfl | rfl
      · exact c0 (by decide)
      · exact c1 (by decide)
      · exact c2 (by decide)
  refine ⟨-1, h, ?_, ?_, I⟩
  · simp (disch := omega) only [f_X11_price, f_X11_isOffer, obs, b10, b01, bm, if_true_, if_false_, eq_self, not_true_eq_false, not_false_eq_true, true_or, or_true, or_false, false_or, and_true, true_and, and_false, false_and, or_self, and_self, Bool.false_eq_true, ite_self, n25, n20, n24, n100, kk1 C, RS.kk H, c_isGauge C W.1, c_isTerm C W.1, c_isFarm C W.1, c_isSeason, c_isPlace, r_isGauge H W.1, r_isTerm H W.1, r_isFarm H W.1, r_isSeason, r_isWeek, r_isPlace, r_isSheet, ci1, ri1, ci2, ri2, ci3, ri3, ci4, ri4, ci5, ri5, ci11, ri11, ci16, ri16, ci98, ri98, ci99, ri99, ci198, ri198, ci9999, ri9999, oa, ob, oc, od, c0, c1, c2]
  · simp (disch := omega) only [f_X12_price, f_X12_isAsked, obs, b10, b01, bm, if_true_, if_false_, eq_self, not_true_eq_false, not_false_eq_true, true_or, or_true, or_false, false_or, and_true, true_and, and_false, false_and, or_self, and_self, Bool.false_eq_true, ite_self, n25, n20, n24, n100, kk1 C, RS.kk H, c_isGauge C W.1, c_isTerm C W.1, c_isFarm C W.1, c_isSeason, c_isPlace, r_isGauge H W.1, r_isTerm H W.1, r_isFarm H W.1, r_isSeason, r_isWeek, r_isPlace, r_isSheet, ci1, ri1, ci2, ri2, ci3, ri3, ci4, ri4, ci5, ri5, ci11, ri11, ci16, ri16, ci98, ri98, ci99, ri99, ci198, ri198, ci9999, ri9999, oa, ob, oc, od, oe]
def totS (σ : SG) (s q f : Nat) (x : Int32) : Int32 := match termO σ f (nI q), gaugeOf σ f (nI q) with
  | some t, some g => x + σ.2 30 f * nI (payN σ g t (plantO σ f) (cropO σ f) s)
  | _, _ => x
def totalO (σ : SG) (s q : Nat) : Int32 := itr (totS σ s q) 0 (cn σ 26) 0
def incS (σ : SG) (q f : Nat) (x : Int32) : Int32 := match termO σ f (nI q), gaugeOf σ f (nI q) with
  | some t, some g => x + σ.2 30 f * nI (prN σ g t (plantO σ f) (cropO σ f))
  | _, _ => x
def incomeO (σ : SG) (q : Nat) : Int32 := itr (incS σ q) 0 (cn σ 26) 0
theorem r_totalOf (H : RS h σ) (W : WV σ) {s q : Nat} (hs : s < 16) (hq : q < 16) (hN : 100 < N) : f_X12_totalOf h N 100 (nI s) (nI q) = some (totalO σ s q) := by
  have hG := W.1.g
  have hT := W.1.t
  have hF := W.1.f
  unfold f_X12_totalOf
  rw [if_pos H.1]
  refine lpB (fun n i x => f_X12_totalOf_b5 h N n 100 (nI s) (nI q) x (nI i)) (totS σ s q) (cn σ 26) (fun x => some x) ?_ ?_ (m := cn σ 26) (i := 0) (by omega) (by omega)
  · intro n x
    simp (disch := omega) only [f_X12_totalOf_b5, f_X12_totalOf_b5_body, obs, b10, b01, bm, if_true_, if_false_, eq_self, not_true_eq_false, not_false_eq_true, true_or, or_true, or_false, false_or, and_true, true_and, and_false, false_and, or_self, and_self, Bool.false_eq_true, ite_self, n25, n20, n24, n100, RS.gi H, hF.1, nI_leI, Nat.le_refl]
  · intro n i x hi
    have hn : ¬ cn σ 26 ≤ i := by omega
    obtain ⟨p1, p2⟩ := plantO_lt W hi
    obtain ⟨k1, k2⟩ := cropO_lt W hi
    rcases e1 : termO σ i (nI q) with _ | t
    · simp (disch := omega) only [f_X12_totalOf_b5, f_X12_totalOf_b5_body, f_X12_totalOf_b45, f_X12_totalOf_b80, obs, b10, b01, bm, if_true_, if_false_, eq_self, not_true_eq_false, not_false_eq_true, true_or, or_true, or_false, false_or, and_true, true_and, and_false, false_and, or_self, and_self, Bool.false_eq_true, ite_self, n25, n20, n24, n100, RS.gi H, hF.1, nI_leI, hn, r_termOf H W, r_gaugeOf H W.1, e1, oI_n, totS, Int32.add_zero, nI_1]
    · have ht := termO_lt W e1
      rcases e2 : gaugeOf σ i (nI q) with _ | g
      · simp (disch := omega) only [f_X12_totalOf_b5, f_X12_totalOf_b5_body, f_X12_totalOf_b45, f_X12_totalOf_b80, obs, b10, b01, bm, if_true_, if_false_, eq_self, not_true_eq_false, not_false_eq_true, true_or, or_true, or_false, false_or, and_true, true_and, and_false, false_and, or_self, and_self, Bool.false_eq_true, ite_self, n25, n20, n24, n100, RS.gi H, hF.1, nI_leI, hn, r_termOf H W, r_gaugeOf H W.1, e1, e2, oI_n, oI_s, nI_negF, totS, Int32.add_zero, nI_1]
      · have hg := gaugeOf_lt e2
        simp (disch := omega) only [f_X12_totalOf_b5, f_X12_totalOf_b5_body, f_X12_totalOf_b80, obs, b10, b01, bm, if_true_, if_false_, eq_self, not_true_eq_false, not_false_eq_true, true_or, or_true, or_false, false_or, and_true, true_and, and_false, false_and, or_self, and_self, Bool.false_eq_true, ite_self, n25, n20, n24, n100, RS.gi H, hF.1, nI_leI, hn, r_termOf H W, r_gaugeOf H W.1, e1, e2, oI_s, nI_negF, rg30 H, ra30 H, r_plantOf H W, rg29 H, ra29 H, k2, r_payN H W, totS, nI_1]
theorem r_incomeOf (H : RS h σ) (W : WV σ) {q : Nat} (hq : q < 16) (hN : 100 < N) : f_X12_incomeOf h N 100 (nI q) = some (incomeO σ q) := by
  have hG := W.1.g
  have hT := W.1.t
  have hF := W.1.f
  unfold f_X12_incomeOf
  rw [if_pos H.1]
  refine lpB (fun n i x => f_X12_incomeOf_b4 h N n 100 (nI q) x (nI i)) (incS σ q) (cn σ 26) (fun x => some x) ?_ ?_ (m := cn σ 26) (i := 0) (by omega) (by omega)
  · intro n x
    simp (disch := omega) only [f_X12_incomeOf_b4, f_X12_incomeOf_b4_body, obs, b10, b01, bm, if_true_, if_false_, eq_self, not_true_eq_false, not_false_eq_true, true_or, or_true, or_false, false_or, and_true, true_and, and_false, false_and, or_self, and_self, Bool.false_eq_true, ite_self, n25, n20, n24, n100, RS.gi H, hF.1, nI_leI, Nat.le_refl]
  · intro n i x hi
    have hn : ¬ cn σ 26 ≤ i := by omega
    obtain ⟨p1, p2⟩ := plantO_lt W hi
    obtain ⟨k1, k2⟩ := cropO_lt W hi
    rcases e1 : termO σ i (nI q) with _ | t
    · simp (disch := omega) only [f_X12_incomeOf_b4, f_X12_incomeOf_b4_body, f_X12_incomeOf_b41, f_X12_incomeOf_b71, obs, b10, b01, bm, if_true_, if_false_, eq_self, not_true_eq_false, not_false_eq_true, true_or, or_true, or_false, false_or, and_true, true_and, and_false, false_and, or_self, and_self, Bool.false_eq_true, ite_self, n25, n20, n24, n100, RS.gi H, hF.1, nI_leI, hn, r_termOf H W, r_gaugeOf H W.1, e1, oI_n, incS, Int32.add_zero, nI_1]
    · have ht := termO_lt W e1
      rcases e2 : gaugeOf σ i (nI q) with _ | g
      · simp (disch := omega) only [f_X12_incomeOf_b4, f_X12_incomeOf_b4_body, f_X12_incomeOf_b41, f_X12_incomeOf_b71, obs, b10, b01, bm, if_true_, if_false_, eq_self, not_true_eq_false, not_false_eq_true, true_or, or_true, or_false, false_or, and_true, true_and, and_false, false_and, or_self, and_self, Bool.false_eq_true, ite_self, n25, n20, n24, n100, RS.gi H, hF.1, nI_leI, hn, r_termOf H W, r_gaugeOf H W.1, e1, e2, oI_n, oI_s, nI_negF, incS, Int32.add_zero, nI_1]
      · have hg := gaugeOf_lt e2
        simp (disch := omega) only [f_X12_incomeOf_b4, f_X12_incomeOf_b4_body, f_X12_incomeOf_b71, obs, b10, b01, bm, if_true_, if_false_, eq_self, not_true_eq_false, not_false_eq_true, true_or, or_true, or_false, false_or, and_true, true_and, and_false, false_and, or_self, and_self, Bool.false_eq_true, ite_self, n25, n20, n24, n100, RS.gi H, hF.1, nI_leI, hn, r_termOf H W, r_gaugeOf H W.1, e1, e2, oI_s, nI_negF, rg30 H, ra30 H, r_plantOf H W, rg29 H, ra29 H, k2, r_priceOf H W, incS, nI_1]
theorem c_totalOf (C : CS h σ tr u) (W : WV σ) {s q : Nat} (hs : s < 16) (hq : q < 16) (hN : 1000 < N) : ∃ h', f_X11_totalOf h N 1 (nI s) (nI q) = some (totalO σ s q, h') ∧ SCR h h' ∧ ai h' 28 = ai h 28 := by
  have hG := W.1.g
  have hT := W.1.t
  have hF := W.1.f
  unfold f_X11_totalOf
  rw [if_pos (kk1 C)]
  refine (lpS (σ := AH) (α := Int32) (fun n i h x => f_X11_totalOf_b5 N n h 1 (nI s) (nI q) x (nI i)) (totS σ s q) (cn σ 26) (fun h' x => some (x, h')) (fun i h' _ => SCR h h' ∧ ai h' 28 = ai h 28) ?_ ?_ (cn σ 26) N 0 h 0 (by omega) (by omega) ⟨SCR.refl, rfl⟩).elim (fun h' e => ⟨h', e.1, e.2⟩)
  · intro n h' x ⟨S, _⟩
    have C' := C.scr S
    simp (disch := omega) only [f_X11_totalOf_b5, f_X11_totalOf_b5_body, obs, b10, b01, bm, if_true_, if_false_, eq_self, not_true_eq_false, not_false_eq_true, true_or, or_true, or_false, false_or, and_true, true_and, and_false, false_and, or_self, and_self, Bool.false_eq_true, ite_self, n25, n20, n24, n100, kr1_2 C', kz12 C', hF.1, nI_leI, Nat.le_refl]
  · intro n i h' x hi ⟨S, S8⟩
    have C' := C.scr S
    have hn : ¬ cn σ 26 ≤ i := by omega
    obtain ⟨p1, p2⟩ := plantO_lt W hi
    obtain ⟨k1, k2⟩ := cropO_lt W hi
    obtain ⟨d1, d2⟩ := dist_lt W hi
    rcases e1 : termO σ i (nI q) with _ | t
    · refine ⟨h', ?_, S, S8⟩
      simp (disch := omega) only [f_X11_totalOf_b5, f_X11_totalOf_b5_body, f_X11_totalOf_b104, obs, b10, b01, bm, if_true_, if_false_, eq_self, not_true_eq_false, not_false_eq_true, true_or, or_true, or_false, false_or, and_true, true_and, and_false, false_and, or_self, and_self, Bool.false_eq_true, ite_self, n25, n20, n24, n100, kr1_2 C', kz12 C', hF.1, nI_leI, hn, kg12 C' W.1, kc300 C', c_termOf C' W, c_gaugeOf C' W, e1, oI_n, totS, nI_1]
    · have ht := termO_lt W e1
      rcases e2 : gaugeOf σ i (nI q) with _ | g
      · refine ⟨h', ?_, S, S8⟩
        simp (disch := omega) only [f_X11_totalOf_b5, f_X11_totalOf_b5_body, f_X11_totalOf_b104, obs, b10, b01, bm, if_true_, if_false_, eq_self, not_true_eq_false, not_false_eq_true, true_or, or_true, or_false, false_or, and_true, true_and, and_false, false_and, or_self, and_self, Bool.false_eq_true, ite_self, n25, n20, n24, n100, kr1_2 C', kz12 C', hF.1, nI_leI, hn, kg12 C' W.1, kc300 C', c_termOf C' W, c_gaugeOf C' W, e1, e2, oI_n, oI_s, nI_negF, totS, nI_1]
      · have hg := gaugeOf_lt e2
        obtain ⟨h2, e3, S2, T8, T9⟩ := c_payN (N := N) (s := s) C' W ht hg hs p1 k1 hN
        refine ⟨h2, ?_, S.trans S2, T8.trans S8⟩
        simp (disch := omega) only [f_X11_totalOf_b5, f_X11_totalOf_b5_body, f_X11_totalOf_b104, obs, b10, b01, bm, if_true_, if_false_, eq_self, not_true_eq_false, not_false_eq_true, true_or, or_true, or_false, false_or, and_true, true_and, and_false, false_and, or_self, and_self, Bool.false_eq_true, ite_self, n25, n20, n24, n100, kr1_2 C', kr1_7 C', kz12 C', hF.1, nI_leI, hn, kg12 C' W.1, kc300 C', c_termOf C' W, c_gaugeOf C' W, e1, e2, oI_s, nI_negF, kf300_3 C', c_district C' W, kx17 C', p2, kq300_4 C', c_kind C' W, c_now C' W.1, e3, totS, nI_1]
theorem c_incomeIn (C : CS h σ tr u) (W : WV σ) {q : Nat} (hq : q < 16) (hN : 1000 < N) : ∃ h', f_X11_incomeIn h N 1 (nI q) = some (incomeO σ q, h') ∧ SCR h h' := by
  have hG := W.1.g
  have hT := W.1.t
  have hF := W.1.f
  unfold f_X11_incomeIn
  rw [if_pos (kk1 C)]
  refine (lpS (σ := AH) (α := Int32) (fun n i h x => f_X11_incomeIn_b4 N n h 1 (nI q) x (nI i)) (incS σ q) (cn σ 26) (fun h' x => some (x, h')) (fun i h' _ => SCR h h') ?_ ?_ (cn σ 26) N 0 h 0 (by omega) (by omega) SCR.refl).elim (fun h' e => ⟨h', e.1, e.2⟩)
  · intro n h' x S
    have C' := C.scr S
    simp (disch := omega) only [f_X11_incomeIn_b4, f_X11_incomeIn_b4_body, obs, b10, b01, bm, if_true_, if_false_, eq_self, not_true_eq_false, not_false_eq_true, true_or, or_true, or_false, false_or, and_true, true_and, and_false, false_and, or_self, and_self, Bool.false_eq_true, ite_self, n25, n20, n24, n100, kr1_2 C', kz12 C', hF.1, nI_leI, Nat.le_refl]
  · intro n i h' x hi S
    have C' := C.scr S
    have hn : ¬ cn σ 26 ≤ i := by omega
    obtain ⟨p1, p2⟩ := plantO_lt W hi
    obtain ⟨k1, k2⟩ := cropO_lt W hi
    obtain ⟨d1, d2⟩ := dist_lt W hi
    rcases e1 : termO σ i (nI q) with _ | t
    · refine ⟨h', ?_, S⟩
      simp (disch := omega) only [f_X11_incomeIn_b4, f_X11_incomeIn_b4_body, f_X11_incomeIn_b95, obs, b10, b01, bm, if_true_, if_false_, eq_self, not_true_eq_false, not_false_eq_true, true_or, or_true, or_false, false_or, and_true, true_and, and_false, false_and, or_self, and_self, Bool.false_eq_true, ite_self, n25, n20, n24, n100, kr1_2 C', kz12 C', hF.1, nI_leI, hn, kg12 C' W.1, kc300 C', c_termOf C' W, c_gaugeOf C' W, e1, oI_n, incS, nI_1]
    · have ht := termO_lt W e1
      rcases e2 : gaugeOf σ i (nI q) with _ | g
      · refine ⟨h', ?_, S⟩
        simp (disch := omega) only [f_X11_incomeIn_b4, f_X11_incomeIn_b4_body, f_X11_incomeIn_b95, obs, b10, b01, bm, if_true_, if_false_, eq_self, not_true_eq_false, not_false_eq_true, true_or, or_true, or_false, false_or, and_true, true_and, and_false, false_and, or_self, and_self, Bool.false_eq_true, ite_self, n25, n20, n24, n100, kr1_2 C', kz12 C', hF.1, nI_leI, hn, kg12 C' W.1, kc300 C', c_termOf C' W, c_gaugeOf C' W, e1, e2, oI_n, oI_s, nI_negF, incS, nI_1]
      · have hg := gaugeOf_lt e2
        obtain ⟨h2, e3, S2⟩ := c_priceOf (N := N) C' W ht hg p1 k1 hN
        refine ⟨h2, ?_, S.trans S2⟩
        simp (disch := omega) only [f_X11_incomeIn_b4, f_X11_incomeIn_b4_body, f_X11_incomeIn_b95, obs, b10, b01, bm, if_true_, if_false_, eq_self, not_true_eq_false, not_false_eq_true, true_or, or_true, or_false, false_or, and_true, true_and, and_false, false_and, or_self, and_self, Bool.false_eq_true, ite_self, n25, n20, n24, n100, kr1_2 C', kr1_7 C', kz12 C', hF.1, nI_leI, hn, kg12 C' W.1, kc300 C', c_termOf C' W, c_gaugeOf C' W, e1, e2, oI_s, nI_negF, kf300_3 C', c_district C' W, kx17 C', p2, kq300_4 C', c_kind C' W, e3, incS, nI_1]
theorem pub_total {a b : Int32} (I : INV L xs h σ tr u n) (hN : 2000 < N) : ∃ v h1, f_X11_total h N 1 a b = some (v, h1) ∧ f_X12_total h1 N 100 a b = some v ∧ INV L xs h1 σ tr u n := by
  obtain ⟨C, H, W, X, S, U⟩ := id I
  have hG := W.1.g
  have hT := W.1.t
  have hF := W.1.f
  have hTl := W.1.tl
  rcases okC a (n := 16) (by decide) with oa | ⟨oa, s, hs, rfl⟩
  · exact ⟨-1, h, by simp only [f_X11_total, obs, b10, b01, bm, if_true_, if_false_, eq_self, not_true_eq_false, not_false_eq_true, true_or, or_true, or_false, false_or, and_true, true_and, and_false, false_and, or_self, and_self, Bool.false_eq_true, ite_self, n25, n20, n24, n100, kk1 C, RS.kk H, c_isGauge C W.1, c_isTerm C W.1, c_isFarm C W.1, c_isSeason, c_isPlace, r_isGauge H W.1, r_isTerm H W.1, r_isFarm H W.1, r_isSeason, r_isWeek, r_isPlace, r_isSheet, ci1, ri1, ci2, ri2, ci3, ri3, ci4, ri4, ci5, ri5, ci11, ri11, ci16, ri16, ci98, ri98, ci99, ri99, ci198, ri198, ci9999, ri9999, oa], by simp only [f_X12_total, obs, b10, b01, bm, if_true_, if_false_, eq_self, not_true_eq_false, not_false_eq_true, true_or, or_true, or_false, false_or, and_true, true_and, and_false, false_and, or_self, and_self, Bool.false_eq_true, ite_self, n25, n20, n24, n100, kk1 C, RS.kk H, c_isGauge C W.1, c_isTerm C W.1, c_isFarm C W.1, c_isSeason, c_isPlace, r_isGauge H W.1, r_isTerm H W.1, r_isFarm H W.1, r_isSeason, r_isWeek, r_isPlace, r_isSheet, ci1, ri1, ci2, ri2, ci3, ri3, ci4, ri4, ci5, ri5, ci11, ri11, ci16, ri16, ci98, ri98, ci99, ri99, ci198, ri198, ci9999, ri9999, oa], I⟩
  rcases okC b (n := 16) (by decide) with ob | ⟨ob, q, hq, rfl⟩
  · exact ⟨-1, h, by simp only [f_X11_total, obs, b10, b01, bm, if_true_, if_false_, eq_self, not_true_eq_false, not_false_eq_true, true_or, or_true, or_false, false_or, and_true, true_and, and_false, false_and, or_self, and_self, Bool.false_eq_true, ite_self, n25, n20, n24, n100, kk1 C, RS.kk H, c_isGauge C W.1, c_isTerm C W.1, c_isFarm C W.1, c_isSeason, c_isPlace, r_isGauge H W.1, r_isTerm H W.1, r_isFarm H W.1, r_isSeason, r_isWeek, r_isPlace, r_isSheet, ci1, ri1, ci2, ri2, ci3, ri3, ci4, ri4, ci5, ri5, ci11, ri11, ci16, ri16, ci98, ri98, ci99, ri99, ci198, ri198, ci9999, ri9999, oa, ob], by simp only [f_X12_total, obs, b10, b01, bm, if_true_, if_false_, eq_self, not_true_eq_false, not_false_eq_true, true_or, or_true, or_false, false_or, and_true, true_and, and_false, false_and, or_self, and_self, Bool.false_eq_true, ite_self, n25, n20, n24, n100, kk1 C, RS.kk H, c_isGauge C W.1, c_isTerm C W.1, c_isFarm C W.1, c_isSeason, c_isPlace, r_isGauge H W.1, r_isTerm H W.1, r_isFarm H W.1, r_isSeason, r_isWeek, r_isPlace, r_isSheet, ci1, ri1, ci2, ri2, ci3, ri3, ci4, ri4, ci5, ri5, ci11, ri11, ci16, ri16, ci98, ri98, ci99, ri99, ci198, ri198, ci9999, ri9999, oa, ob], I⟩
  obtain ⟨h1, e1, S1, -⟩ := c_totalOf (N := N) C W hs hq (by omega)
  have I' := I.scr S1
  have H' := I'.2.1
  refine ⟨totalO σ s q, h1, ?_, ?_, I'⟩
  · simp (disch := omega) only [f_X11_total, obs, b10, b01, bm, if_true_, if_false_, eq_self, not_true_eq_false, not_false_eq_true, true_or, or_true, or_false, false_or, and_true, true_and, and_false, false_and, or_self, and_self, Bool.false_eq_true, ite_self, n25, n20, n24, n100, kk1 C, RS.kk H, c_isGauge C W.1, c_isTerm C W.1, c_isFarm C W.1, c_isSeason, c_isPlace, r_isGauge H W.1, r_isTerm H W.1, r_isFarm H W.1, r_isSeason, r_isWeek, r_isPlace, r_isSheet, ci1, ri1, ci2, ri2, ci3, ri3, ci4, ri4, ci5, ri5, ci11, ri11, ci16, ri16, ci98, ri98, ci99, ri99, ci198, ri198, ci9999, ri9999, oa, ob, e1]
  · simp (disch := omega) only [f_X12_total, obs, b10, b01, bm, if_true_, if_false_, eq_self, not_true_eq_false, not_false_eq_true, true_or, or_true, or_false, false_or, and_true, true_and, and_false, false_and, or_self, and_self, Bool.false_eq_true, ite_self, n25, n20, n24, n100, RS.kk H', r_isSeason, oa, ob, r_totalOf H' W]
theorem pub_income {a : Int32} (I : INV L xs h σ tr u n) (hN : 2000 < N) : ∃ v h1, f_X11_income h N 1 a = some (v, h1) ∧ f_X12_income h1 N 100 a = some v ∧ INV L xs h1 σ tr u n := by
  obtain ⟨C, H, W, X, S, U⟩ := id I
  have hG := W.1.g
  have hT := W.1.t
  have hF := W.1.f
  have hTl := W.1.tl
  rcases okC a (n := 16) (by decide) with oa | ⟨oa, q, hq, rfl⟩
  · exact ⟨-1, h, by simp only [f_X11_income, obs, b10, b01, bm, if_true_, if_false_, eq_self, not_true_eq_false, not_false_eq_true, true_or, or_true, or_false, false_or, and_true, true_and, and_false, false_and, or_self, and_self, Bool.false_eq_true, ite_self, n25, n20, n24, n100, kk1 C, RS.kk H, c_isGauge C W.1, c_isTerm C W.1, c_isFarm C W.1, c_isSeason, c_isPlace, r_isGauge H W.1, r_isTerm H W.1, r_isFarm H W.1, r_isSeason, r_isWeek, r_isPlace, r_isSheet, ci1, ri1, ci2, ri2, ci3, ri3, ci4, ri4, ci5, ri5, ci11, ri11, ci16, ri16, ci98, ri98, ci99, ri99, ci198, ri198, ci9999, ri9999, oa], by simp only [f_X12_income, obs, b10, b01, bm, if_true_, if_false_, eq_self, not_true_eq_false, not_false_eq_true, true_or, or_true, or_false, false_or, and_true, true_and, and_false, false_and, or_self, and_self, Bool.false_eq_true, ite_self, n25, n20, n24, n100, kk1 C, RS.kk H, c_isGauge C W.1, c_isTerm C W.1, c_isFarm C W.1, c_isSeason, c_isPlace, r_isGauge H W.1, r_isTerm H W.1, r_isFarm H W.1, r_isSeason, r_isWeek, r_isPlace, r_isSheet, ci1, ri1, ci2, ri2, ci3, ri3, ci4, ri4, ci5, ri5, ci11, ri11, ci16, ri16, ci98, ri98, ci99, ri99, ci198, ri198, ci9999, ri9999, oa], I⟩
  obtain ⟨h1, e1, S1⟩ := c_incomeIn (N := N) C W hq (by omega)
  have I' := I.scr S1
  have H' := I'.2.1
  refine ⟨incomeO σ q, h1, ?_, ?_, I'⟩
  · simp (disch := omega) only [f_X11_income, obs, b10, b01, bm, if_true_, if_false_, eq_self, not_true_eq_false, not_false_eq_true, true_or, or_true, or_false, false_or, and_true, true_and, and_false, false_and, or_self, and_self, Bool.false_eq_true, ite_self, n25, n20, n24, n100, kk1 C, RS.kk H, c_isGauge C W.1, c_isTerm C W.1, c_isFarm C W.1, c_isSeason, c_isPlace, r_isGauge H W.1, r_isTerm H W.1, r_isFarm H W.1, r_isSeason, r_isWeek, r_isPlace, r_isSheet, ci1, ri1, ci2, ri2, ci3, ri3, ci4, ri4, ci5, ri5, ci11, ri11, ci16, ri16, ci98, ri98, ci99, ri99, ci198, ri198, ci9999, ri9999, oa, e1]
  · simp (disch := omega) only [f_X12_income, obs, b10, b01, bm, if_true_, if_false_, eq_self, not_true_eq_false, not_false_eq_true, true_or, or_true, or_false, false_or, and_true, true_and, and_false, false_and, or_self, and_self, Bool.false_eq_true, ite_self, n25, n20, n24, n100, RS.kk H', r_isSeason, oa, r_incomeOf H' W]
end
