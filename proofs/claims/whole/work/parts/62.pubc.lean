/-! ===== public: plain ones ===== -/
section
variable {L N : Nat} {xs : Nat → Int32} {h h' : AH} {σ σ' : SG} {tr : Nat → Nat} {u n : Nat}

theorem il0 : nI 0 = 0 := by decide
theorem il1 : nI 1 = 1 := by decide
theorem il2 : nI 2 = 2 := by decide
theorem il3 : nI 3 = 3 := by decide
theorem il4 : nI 4 = 4 := by decide
theorem il5 : nI 5 = 5 := by decide
theorem il6 : nI 6 = 6 := by decide
theorem il7 : nI 7 = 7 := by decide
theorem il8 : nI 8 = 8 := by decide
theorem il9 : nI 9 = 9 := by decide
theorem il10 : nI 10 = 10 := by decide
theorem il11 : nI 11 = 11 := by decide
theorem c_has18 (C : CS h σ tr u) (W : CT σ) {v : Int32} : f_X7_has h 18 v = some (if ok v (cn σ 36) then 1 else 0) := by
  have := W.c
  unfold f_X7_has
  rw [if_pos (kk18 C), ki18_3 C, obs, this.1, cin_ok1 (by omega), obs, if_pos (by rw [zi2]; trivial)]
theorem c_has19 (C : CS h σ tr u) (W : CT σ) {v : Int32} : f_X7_has h 19 v = some (if ok v (cn σ 41) then 1 else 0) := by
  have := W.l
  unfold f_X7_has
  rw [if_pos (kk19 C), ki19_3 C, obs, this.1, cin_ok1 (by omega), obs, if_pos (by rw [zi2]; trivial)]
theorem c_has20 (C : CS h σ tr u) (W : CT σ) {v : Int32} : f_X7_has h 20 v = some (if ok v (cn σ 49) then 1 else 0) := by
  have := W.p
  unfold f_X7_has
  rw [if_pos (kk20 C), ki20_3 C, obs, this.1, cin_ok1 (by omega), obs, if_pos (by rw [zi2]; trivial)]
theorem c_has21 (C : CS h σ tr u) (W : CT σ) {v : Int32} : f_X7_has h 21 v = some (if ok v (cn σ 55) then 1 else 0) := by
  have := W.q
  unfold f_X7_has
  rw [if_pos (kk21 C), ki21_3 C, obs, this.1, cin_ok1 (by omega), obs, if_pos (by rw [zi2]; trivial)]
theorem r_isPayment (H : RS h σ) (W : CT σ) {v : Int32} : f_X12_isPayment h 100 v = some (if ok v (cn σ 49) then 1 else 0) := by
  have := W.p
  unfold f_X12_isPayment
  rw [if_pos H.1, RS.gi H, obs, this.1, in_ok1 (by omega), obs, if_pos (by rw [zi2]; trivial)]
theorem crk_or (c : Int32) : crK c = 2 ∨ crK c = 3 ∨ crK c = 6 ∨ crK c = 7 := by
  unfold crK
  split
  · omega
  · split
    · omega
    · split <;> omega
theorem c_xgc (C : CS h σ tr u) {j f : Nat} (hj : j < cn σ 26) : xgc h (360 + j) f = some (fi h (360 + j) f) := by
  unfold xgc
  rw [if_pos (by rw [(C.2.2.2.2.1.1 j hj).1.1]; exact crk_or _)]
theorem c_xgcr (C : CS h σ tr u) {j : Nat} (hj : j < cn σ 26) : xgcr h (360 + j) 2 = some (390 + j) := by
  unfold xgcr
  rw [if_pos (by rw [(C.2.2.2.2.1.1 j hj).1.1]; exact crk_or _), (C.2.2.2.2.1.1 j hj).1.2.1]
theorem c_xgn (C : CS h σ tr u) : xgn h 1 12 15 = some (fr h 1 15) := by
  unfold xgn
  rw [if_pos (kk1 C)]
theorem oel_n {α β : Type} {b : β} {f : α → β} : (none : Option α).elim b f = b := rfl
theorem oel_s {α β : Type} {a : α} {b : β} {f : α → β} : (some a).elim b f = f a := rfl
theorem pub_debt {a : Int32} (I : INV L xs h σ tr u n) : ∃ v, f_X11_debt h 1 a = some v ∧ f_X12_debt h 100 a = some v := by
  obtain ⟨C, H, W, X, S, U⟩ := id I
  have hG := W.1.g
  have hT := W.1.t
  have hF := W.1.f
  have hTl := W.1.tl
  rcases okC a (n := cn σ 26) (by omega) with oa | ⟨oa, f, hf, rfl⟩
  · exact ⟨-1, by simp only [f_X11_debt, obs, b10, b01, bm, if_true_, if_false_, eq_self, not_true_eq_false, not_false_eq_true, true_or, or_true, or_false, false_or, and_true, true_and, and_false, false_and, or_self, and_self, Bool.false_eq_true, ite_self, n25, n20, n24, n100, kk1 C, RS.kk H, c_isGauge C W.1, c_isTerm C W.1, c_isFarm C W.1, c_isSeason, c_isPlace, r_isGauge H W.1, r_isTerm H W.1, r_isFarm H W.1, r_isSeason, r_isWeek, r_isPlace, r_isSheet, ci1, ri1, ci2, ri2, ci3, ri3, ci4, ri4, ci5, ri5, ci11, ri11, ci16, ri16, ci98, ri98, ci99, ri99, ci198, ri198, ci9999, ri9999, oa], by simp only [f_X12_debt, obs, b10, b01, bm, if_true_, if_false_, eq_self, not_true_eq_false, not_false_eq_true, true_or, or_true, or_false, false_or, and_true, true_and, and_false, false_and, or_self, and_self, Bool.false_eq_true, ite_self, n25, n20, n24, n100, kk1 C, RS.kk H, c_isGauge C W.1, c_isTerm C W.1, c_isFarm C W.1, c_isSeason, c_isPlace, r_isGauge H W.1, r_isTerm H W.1, r_isFarm H W.1, r_isSeason, r_isWeek, r_isPlace, r_isSheet, ci1, ri1, ci2, ri2, ci3, ri3, ci4, ri4, ci5, ri5, ci11, ri11, ci16, ri16, ci98, ri98, ci99, ri99, ci198, ri198, ci9999, ri9999, oa]⟩
  refine ⟨σ.2 31 f, ?_, ?_⟩
  · simp (disch := omega) only [f_X11_debt, obs, b10, b01, bm, if_true_, if_false_, eq_self, not_true_eq_false, not_false_eq_true, true_or, or_true, or_false, false_or, and_true, true_and, and_false, false_and, or_self, and_self, Bool.false_eq_true, ite_self, n25, n20, n24, n100, kk1 C, RS.kk H, c_isGauge C W.1, c_isTerm C W.1, c_isFarm C W.1, c_isSeason, c_isPlace, r_isGauge H W.1, r_isTerm H W.1, r_isFarm H W.1, r_isSeason, r_isWeek, r_isPlace, r_isSheet, ci1, ri1, ci2, ri2, ci3, ri3, ci4, ri4, ci5, ri5, ci11, ri11, ci16, ri16, ci98, ri98, ci99, ri99, ci198, ri198, ci9999, ri9999, oa, kr1_2 C, kg12 C W.1, kc300 C, kf300_6 C]
  · simp (disch := omega) only [f_X12_debt, obs, b10, b01, bm, if_true_, if_false_, eq_self, not_true_eq_false, not_false_eq_true, true_or, or_true, or_false, false_or, and_true, true_and, and_false, false_and, or_self, and_self, Bool.false_eq_true, ite_self, n25, n20, n24, n100, kk1 C, RS.kk H, c_isGauge C W.1, c_isTerm C W.1, c_isFarm C W.1, c_isSeason, c_isPlace, r_isGauge H W.1, r_isTerm H W.1, r_isFarm H W.1, r_isSeason, r_isWeek, r_isPlace, r_isSheet, ci1, ri1, ci2, ri2, ci3, ri3, ci4, ri4, ci5, ri5, ci11, ri11, ci16, ri16, ci98, ri98, ci99, ri99, ci198, ri198, ci9999, ri9999, oa, rg31 H, ra31 H]
theorem pub_taken {a b : Int32} (I : INV L xs h σ tr u n) : ∃ v, f_X11_taken h 1 a b = some v ∧ f_X12_taken h 100 a b = some v := by
  obtain ⟨C, H, W, X, S, U⟩ := id I
  have hG := W.1.g
  have hT := W.1.t
  have hF := W.1.f
  have hTl := W.1.tl
  rcases okC b (n := 4) (by decide) with ob | ⟨ob, k, hk, rfl⟩
  · exact ⟨-2, by simp only [f_X11_taken, obs, b10, b01, bm, if_true_, if_false_, eq_self, not_true_eq_false, not_false_eq_true, true_or, or_true, or_false, false_or, and_true, true_and, and_false, false_and, or_self, and_self, Bool.false_eq_true, ite_self, n25, n20, n24, n100, kk1 C, RS.kk H, c_isGauge C W.1, c_isTerm C W.1, c_isFarm C W.1, c_isSeason, c_isPlace, r_isGauge H W.1, r_isTerm H W.1, r_isFarm H W.1, r_isSeason, r_isWeek, r_isPlace, r_isSheet, ci1, ri1, ci2, ri2, ci3, ri3, ci4, ri4, ci5, ri5, ci11, ri11, ci16, ri16, ci98, ri98, ci99, ri99, ci198, ri198, ci9999, ri9999, ob], by simp only [f_X12_taken, obs, b10, b01, bm, if_true_, if_false_, eq_self, not_true_eq_false, not_false_eq_true, true_or, or_true, or_false, false_or, and_true, true_and, and_false, false_and, or_self, and_self, Bool.false_eq_true, ite_self, n25, n20, n24, n100, kk1 C, RS.kk H, c_isGauge C W.1, c_isTerm C W.1, c_isFarm C W.1, c_isSeason, c_isPlace, r_isGauge H W.1, r_isTerm H W.1, r_isFarm H W.1, r_isSeason, r_isWeek, r_isPlace, r_isSheet, ci1, ri1, ci2, ri2, ci3, ri3, ci4, ri4, ci5, ri5, ci11, ri11, ci16, ri16, ci98, ri98, ci99, ri99, ci198, ri198, ci9999, ri9999, ob]⟩
  rcases okC a (n := cn σ 26) (by omega) with oa | ⟨oa, f, hf, rfl⟩
  · exact ⟨-11, by simp only [f_X11_taken, obs, b10, b01, bm, if_true_, if_false_, eq_self, not_true_eq_false, not_false_eq_true, true_or, or_true, or_false, false_or, and_true, true_and, and_false, false_and, or_self, and_self, Bool.false_eq_true, ite_self, n25, n20, n24, n100, kk1 C, RS.kk H, c_isGauge C W.1, c_isTerm C W.1, c_isFarm C W.1, c_isSeason, c_isPlace, r_isGauge H W.1, r_isTerm H W.1, r_isFarm H W.1, r_isSeason, r_isWeek, r_isPlace, r_isSheet, ci1, ri1, ci2, ri2, ci3, ri3, ci4, ri4, ci5, ri5, ci11, ri11, ci16, ri16, ci98, ri98, ci99, ri99, ci198, ri198, ci9999, ri9999, ob, oa], by simp only [f_X12_taken, obs, b10, b01, bm, if_true_, if_false_, eq_self, not_true_eq_false, not_false_eq_true, true_or, or_true, or_false, false_or, and_true, true_and, and_false, false_and, or_self, and_self, Bool.false_eq_true, ite_self, n25, n20, n24, n100, kk1 C, RS.kk H, c_isGauge C W.1, c_isTerm C W.1, c_isFarm C W.1, c_isSeason, c_isPlace, r_isGauge H W.1, r_isTerm H W.1, r_isFarm H W.1, r_isSeason, r_isWeek, r_isPlace, r_isSheet, ci1, ri1, ci2, ri2, ci3, ri3, ci4, ri4, ci5, ri5, ci11, ri11, ci16, ri16, ci98, ri98, ci99, ri99, ci198, ri198, ci9999, ri9999, ob, oa]⟩
  obtain ⟨c1, c2⟩ := cropO_lt W hf
  have e := (C.2.2.2.2.1.1 f hf).1.1
  have hk := c_kind C W hf
  rw [c2] at e
  have x11 : f_X11_taken h 1 (nI f) (nI k) = (if nI k = 1 then (xio h (360 + f) 5).bind fun v9 => f_X11_taken_b94 h (360 + f) v9 else (if nI k = 2 then (xio h (360 + f) 6).bind fun v11 => f_X11_taken_b94 h (360 + f) v11 else (if nI k = 3 then (xio h (360 + f) 1).bind fun v13 => f_X11_taken_b94 h (360 + f) v13 else f_X11_taken_b94 h (360 + f) 1))) := by
    simp (disch := omega) only [f_X11_taken, obs, b10, b01, bm, if_true_, if_false_, eq_self, not_true_eq_false, not_false_eq_true, true_or, or_true, or_false, false_or, and_true, true_and, and_false, false_and, or_self, and_self, Bool.false_eq_true, ite_self, n25, n20, n24, n100, kk1 C, RS.kk H, c_isGauge C W.1, c_isTerm C W.1, c_isFarm C W.1, c_isSeason, c_isPlace, r_isGauge H W.1, r_isTerm H W.1, r_isFarm H W.1, r_isSeason, r_isWeek, r_isPlace, r_isSheet, ci1, ri1, ci2, ri2, ci3, ri3, ci4, ri4, ci5, ri5, ci11, ri11, ci16, ri16, ci98, ri98, ci99, ri99, ci198, ri198, ci9999, ri9999, ob, oa, kr1_2 C, kg12 C W.1, kc300 C, kq300_4 C]
  have x12 : f_X12_taken h 100 (nI f) (nI k) = (if nI k = 0 then some (nI (cropO σ f)) else (if nI (cropO σ f) = nI k then some (nI (cropO σ f)) else (if nI k = 1 then (if nI (cropO σ f) = 2 then some (nI (cropO σ f)) else some (-13)) else some (-13)))) := by
    simp (disch := omega) only [f_X12_taken, f_X12_taken_b49, obs, b10, b01, bm, if_true_, if_false_, eq_self, not_true_eq_false, not_false_eq_true, true_or, or_true, or_false, false_or, and_true, true_and, and_false, false_and, or_self, and_self, Bool.false_eq_true, ite_self, n25, n20, n24, n100, kk1 C, RS.kk H, c_isGauge C W.1, c_isTerm C W.1, c_isFarm C W.1, c_isSeason, c_isPlace, r_isGauge H W.1, r_isTerm H W.1, r_isFarm H W.1, r_isSeason, r_isWeek, r_isPlace, r_isSheet, ci1, ri1, ci2, ri2, ci3, ri3, ci4, ri4, ci5, ri5, ci11, ri11, ci16, ri16, ci98, ri98, ci99, ri99, ci198, ri198, ci9999, ri9999, ob, oa, rg29 H, ra29 H, c2]
  have hb : ∀ v, f_X11_taken_b94 h (360 + f) v = if v = 0 then some (-13) else some (nI (cropO σ f)) := by
    intro v
    unfold f_X11_taken_b94
    rw [hk, obs]
  rw [x11, x12]
  simp only [hb, xio, e]
  generalize cropO σ f = q at c1
  have k4 : k = 0 ∨ k = 1 ∨ k = 2 ∨ k = 3 := by omega
  have q4 : q = 0 ∨ q = 1 ∨ q = 2 ∨ q = 3 := by omega
  rcases k4 with rfl | rfl | rfl | rfl <;> rcases q4 with rfl | rfl | rfl | rfl <;> first | exact ⟨-13, by decide, by decide⟩ | exact ⟨nI 0, by decide, by decide⟩ | exact ⟨nI 1, by decide, by decide⟩ | exact ⟨nI 2, by decide, by decide⟩ | exact ⟨nI 3, by decide, by decide⟩
theorem pub_trace {a : Int32} (I : INV L xs h σ tr u n) : ∃ v, f_X11_trace h 1 a = some v ∧ f_X12_trace h 100 a = some v := by
  obtain ⟨C, H, W, X, S, U⟩ := id I
  have hG := W.1.g
  have hT := W.1.t
  have hF := W.1.f
  have hTl := W.1.tl
  obtain ⟨r, hr, er⟩ := X.2.2.2.1
  have hi : f_X12_trace h 100 a = (f_X12_in h a 0 (nI r - 1)).bind fun v4 => (if v4 = 0 then some (-1) else (xia h 165 a).bind fun v7 => some v7) := by
    unfold f_X12_trace f_X12_trace_b20
    rw [if_pos H.1, RS.gi H, obs, er, obs, rg65 H]
    by_cases q : (20 : Int32) ≤ nI r
    · rw [lt20, nI_leI (by decide) (by omega)] at q
      have : r = 20 := by omega
      subst this
      rw [if_pos (by decide)]
      rfl
    · rw [if_neg q]
      rfl
  have hm : (if (20 : Int32) < nI r then (20 : Int32) else nI r) = nI r := by rw [if_neg (by rw [lt20, nI_ltI (by decide) (by omega)]; omega)]
  rcases C.2.2.2.2.2.1 with ⟨q1, q2⟩ | ⟨j, q1, q2, q3, q4⟩
  · have r0 : r = 0 := by
      rw [q2, lt0, nI_eq (by decide) (by omega)] at er
      omega
    subst r0
    refine ⟨-1, ?_, ?_⟩
    · simp only [f_X11_trace, obs, b10, b01, bm, if_true_, if_false_, eq_self, not_true_eq_false, not_false_eq_true, true_or, or_true, or_false, false_or, and_true, true_and, and_false, false_and, or_self, and_self, Bool.false_eq_true, ite_self, n25, n20, n24, n100, kk1 C, c_xgn C, q1, oel_n]
    · rw [hi, in_ok1 (by decide), obs]
      rcases okC a (n := 0) (by decide) with oa | ⟨_, k, hk, _⟩
      · rw [oa]; rfl
      · omega
  · rcases okC a (n := r) (by omega) with oa | ⟨oa, k, hk, rfl⟩
    · refine ⟨-1, ?_, ?_⟩
      · simp (disch := omega) only [f_X11_trace, obs, b10, b01, bm, if_true_, if_false_, eq_self, not_true_eq_false, not_false_eq_true, true_or, or_true, or_false, false_or, and_true, true_and, and_false, false_and, or_self, and_self, Bool.false_eq_true, ite_self, n25, n20, n24, n100, kk1 C, c_xgn C, q2, oel_s, c_xgc C, q3, er, hm, cin_ok1, oa]
      · rw [hi, in_ok1 (by omega), obs, oa]; rfl
    · have hx : xia h (390 + j) (nI k) = some (σ.2 65 k) := xia_of (C.oj (b := 390) (c := 26) (k := 20) (m := 24) (by decide) q1) (C.2.2.2.2.1.1 j q1).1.2.2.1 (show k < 20 by omega) (by decide) (q4 k (by omega) (by rw [er]; exact nI_lt hk (by omega)))
      refine ⟨σ.2 65 k, ?_, ?_⟩
      · simp (disch := omega) only [f_X11_trace, obs, b10, b01, bm, if_true_, if_false_, eq_self, not_true_eq_false, not_false_eq_true, true_or, or_true, or_false, false_or, and_true, true_and, and_false, false_and, or_self, and_self, Bool.false_eq_true, ite_self, n25, n20, n24, n100, kk1 C, c_xgn C, q2, oel_s, c_xgc C, q3, er, hm, cin_ok1, oa, c_xgcr C, hx]
      · rw [hi, in_ok1 (by omega), obs, oa, ra65 H (by omega)]; rfl
theorem pub_count {a : Int32} (I : INV L xs h σ tr u n) : ∃ v, f_X11_count h 1 a = some v ∧ f_X12_count h 100 a = some v := by
  obtain ⟨C, H, W, X, S, U⟩ := id I
  have hG := W.1.g
  have hT := W.1.t
  have hF := W.1.f
  have hTl := W.1.tl
  by_cases c0 : a = 0
  · subst c0
    exact ⟨σ.1 0, by simp only [f_X11_count, obs, b10, b01, bm, if_true_, if_false_, eq_self, not_true_eq_false, not_false_eq_true, true_or, or_true, or_false, false_or, and_true, true_and, and_false, false_and, or_self, and_self, Bool.false_eq_true, ite_self, n25, n20, n24, n100, kk1 C, kr1_0 C, kz10 C], by simp only [f_X12_count, obs, b10, b01, bm, if_true_, if_false_, eq_self, not_true_eq_false, not_false_eq_true, true_or, or_true, or_false, false_or, and_true, true_and, and_false, false_and, or_self, and_self, Bool.false_eq_true, ite_self, n25, n20, n24, n100, RS.kk H, RS.gi H]⟩
  by_cases c1 : a = 1
  · subst c1
    have z1_0 : ((1 : Int32) = 0) = False := by decide
    exact ⟨σ.1 7, by simp only [f_X11_count, obs, b10, b01, bm, if_true_, if_false_, eq_self, not_true_eq_false, not_false_eq_true, true_or, or_true, or_false, false_or, and_true, true_and, and_false, false_and, or_self, and_self, Bool.false_eq_true, ite_self, n25, n20, n24, n100, kk1 C, z1_0, c_now C W.1, hTl.1], by simp only [f_X12_count, obs, b10, b01, bm, if_true_, if_false_, eq_self, not_true_eq_false, not_false_eq_true, true_or, or_true, or_false, false_or, and_true, true_and, and_false, false_and, or_self, and_self, Bool.false_eq_true, ite_self, n25, n20, n24, n100, RS.kk H, RS.gi H, z1_0, hTl.1]⟩
  by_cases c2 : a = 2
  · subst c2
    have z2_0 : ((2 : Int32) = 0) = False := by decide
    have z2_1 : ((2 : Int32) = 1) = False := by decide
    exact ⟨σ.1 13, by simp only [f_X11_count, obs, b10, b01, bm, if_true_, if_false_, eq_self, not_true_eq_false, not_false_eq_true, true_or, or_true, or_false, false_or, and_true, true_and, and_false, false_and, or_self, and_self, Bool.false_eq_true, ite_self, n25, n20, n24, n100, kk1 C, z2_0, z2_1, kr1_1 C, kz11 C], by simp only [f_X12_count, obs, b10, b01, bm, if_true_, if_false_, eq_self, not_true_eq_false, not_false_eq_true, true_or, or_true, or_false, false_or, and_true, true_and, and_false, false_and, or_self, and_self, Bool.false_eq_true, ite_self, n25, n20, n24, n100, RS.kk H, RS.gi H, z2_0, z2_1]⟩
  by_cases c3 : a = 3
  · subst c3
    have z3_0 : ((3 : Int32) = 0) = False := by decide
    have z3_1 : ((3 : Int32) = 1) = False := by decide
    have z3_2 : ((3 : Int32) = 2) = False := by decide
    exact ⟨σ.1 26, by simp only [f_X11_count, obs, b10, b01, bm, if_true_, if_false_, eq_self, not_true_eq_false, not_false_eq_true, true_or, or_true, or_false, false_or, and_true, true_and, and_false, false_and, or_self, and_self, Bool.false_eq_true, ite_self, n25, n20, n24, n100, kk1 C, z3_0, z3_1, z3_2, kr1_2 C, kz12 C], by simp only [f_X12_count, obs, b10, b01, bm, if_true_, if_false_, eq_self, not_true_eq_false, not_false_eq_true, true_or, or_true, or_false, false_or, and_true, true_and, and_false, false_and, or_self, and_self, Bool.false_eq_true, ite_self, n25, n20, n24, n100, RS.kk H, RS.gi H, z3_0, z3_1, z3_2]⟩
  by_cases c4 : a = 4
  · subst c4
    have z4_0 : ((4 : Int32) = 0) = False := by decide
    have z4_1 : ((4 : Int32) = 1) = False := by decide
    have z4_2 : ((4 : Int32) = 2) = False := by decide
    have z4_3 : ((4 : Int32) = 3) = False := by decide
    exact ⟨σ.1 36, by simp only [f_X11_count, obs, b10, b01, bm, if_true_, if_false_, eq_self, not_true_eq_false, not_false_eq_true, true_or, or_true, or_false, false_or, and_true, true_and, and_false, false_and, or_self, and_self, Bool.false_eq_true, ite_self, n25, n20, n24, n100, kk1 C, z4_0, z4_1, z4_2, z4_3, kr1_8 C, ki18_3 C], by simp only [f_X12_count, obs, b10, b01, bm, if_true_, if_false_, eq_self, not_true_eq_false, not_false_eq_true, true_or, or_true, or_false, false_or, and_true, true_and, and_false, false_and, or_self, and_self, Bool.false_eq_true, ite_self, n25, n20, n24, n100, RS.kk H, RS.gi H, z4_0, z4_1, z4_2, z4_3]⟩
  by_cases c5 : a = 5
  · subst c5
    have z5_0 : ((5 : Int32) = 0) = False := by decide
    have z5_1 : ((5 : Int32) = 1) = False := by decide
    have z5_2 : ((5 : Int32) = 2) = False := by decide
    have z5_3 : ((5 : Int32) = 3) = False := by decide
    have z5_4 : ((5 : Int32) = 4) = False := by decide
    exact ⟨σ.1 41, by simp only [f_X11_count, obs, b10, b01, bm, if_true_, if_false_, eq_self, not_true_eq_false, not_false_eq_true, true_or, or_true, or_false, false_or, and_true, true_and, and_false, false_and, or_self, and_self, Bool.false_eq_true, ite_self, n25, n20, n24, n100, kk1 C, z5_0, z5_1, z5_2, z5_3, z5_4, kr1_9 C, ki19_3 C], by simp only [f_X12_count, obs, b10, b01, bm, if_true_, if_false_, eq_self, not_true_eq_false, not_false_eq_true, true_or, or_true, or_false, false_or, and_true, true_and, and_false, false_and, or_self, and_self, Bool.false_eq_true, ite_self, n25, n20, n24, n100, RS.kk H, RS.gi H, z5_0, z5_1, z5_2, z5_3, z5_4]⟩
  by_cases c6 : a = 6
  · subst c6
    have z6_0 : ((6 : Int32) = 0) = False := by decide
    have z6_1 : ((6 : Int32) = 1) = False := by decide
    have z6_2 : ((6 : Int32) = 2) = False := by decide
    have z6_3 : ((6 : Int32) = 3) = False := by decide
    have z6_4 : ((6 : Int32) = 4) = False := by decide
    have z6_5 : ((6 : Int32) = 5) = False := by decide
    exact ⟨σ.1 46, by simp only [f_X11_count, obs, b10, b01, bm, if_true_, if_false_, eq_self, not_true_eq_false, not_false_eq_true, true_or, or_true, or_false, false_or, and_true, true_and, and_false, false_and, or_self, and_self, Bool.false_eq_true, ite_self, n25, n20, n24, n100, kk1 C, z6_0, z6_1, z6_2, z6_3, z6_4, z6_5, kr1_3 C, kz13 C], by simp only [f_X12_count, obs, b10, b01, bm, if_true_, if_false_, eq_self, not_true_eq_false, not_false_eq_true, true_or, or_true, or_false, false_or, and_true, true_and, and_false, false_and, or_self, and_self, Bool.false_eq_true, ite_self, n25, n20, n24, n100, RS.kk H, RS.gi H, z6_0, z6_1, z6_2, z6_3, z6_4, z6_5]⟩
  by_cases c7 : a = 7
  · subst c7
    have z7_0 : ((7 : Int32) = 0) = False := by decide
    have z7_1 : ((7 : Int32) = 1) = False := by decide
    have z7_2 : ((7 : Int32) = 2) = False := by decide
    have z7_3 : ((7 : Int32) = 3) = False := by decide
    have z7_4 : ((7 : Int32) = 4) = False := by decide
    have z7_5 : ((7 : Int32) = 5) = False := by decide
    have z7_6 : ((7 : Int32) = 6) = False := by decide
    exact ⟨σ.1 49, by simp only [f_X11_count, obs, b10, b01, bm, if_true_, if_false_, eq_self, not_true_eq_false, not_false_eq_true, true_or, or_true, or_false, false_or, and_true, true_and, and_false, false_and, or_self, and_self, Bool.false_eq_true, ite_self, n25, n20, n24, n100, kk1 C, z7_0, z7_1, z7_2, z7_3, z7_4, z7_5, z7_6, kr1_10 C, ki20_3 C], by simp only [f_X12_count, obs, b10, b01, bm, if_true_, if_false_, eq_self, not_true_eq_false, not_false_eq_true, true_or, or_true, or_false, false_or, and_true, true_and, and_false, false_and, or_self, and_self, Bool.false_eq_true, ite_self, n25, n20, n24, n100, RS.kk H, RS.gi H, z7_0, z7_1, z7_2, z7_3, z7_4, z7_5, z7_6]⟩
  by_cases c8 : a = 8
  · subst c8
    have z8_0 : ((8 : Int32) = 0) = False := by decide
    have z8_1 : ((8 : Int32) = 1) = False := by decide
    have z8_2 : ((8 : Int32) = 2) = False := by decide
    have z8_3 : ((8 : Int32) = 3) = False := by decide
    have z8_4 : ((8 : Int32) = 4) = False := by decide
    have z8_5 : ((8 : Int32) = 5) = False := by decide
    have z8_6 : ((8 : Int32) = 6) = False := by decide
    have z8_7 : ((8 : Int32) = 7) = False := by decide
    exact ⟨σ.1 63, by simp only [f_X11_count, obs, b10, b01, bm, if_true_, if_false_, eq_self, not_true_eq_false, not_false_eq_true, true_or, or_true, or_false, false_or, and_true, true_and, and_false, false_and, or_self, and_self, Bool.false_eq_true, ite_self, n25, n20, n24, n100, kk1 C, z8_0, z8_1, z8_2, z8_3, z8_4, z8_5, z8_6, z8_7, kr1_5 C, ki15_1 C], by simp only [f_X12_count, obs, b10, b01, bm, if_true_, if_false_, eq_self, not_true_eq_false, not_false_eq_true, true_or, or_true, or_false, false_or, and_true, true_and, and_false, false_and, or_self, and_self, Bool.false_eq_true, ite_self, n25, n20, n24, n100, RS.kk H, RS.gi H, z8_0, z8_1, z8_2, z8_3, z8_4, z8_5, z8_6, z8_7]⟩
  by_cases c9 : a = 9
  · subst c9
    have z9_0 : ((9 : Int32) = 0) = False := by decide
    have z9_1 : ((9 : Int32) = 1) = False := by decide
    have z9_2 : ((9 : Int32) = 2) = False := by decide
    have z9_3 : ((9 : Int32) = 3) = False := by decide
    have z9_4 : ((9 : Int32) = 4) = False := by decide
    have z9_5 : ((9 : Int32) = 5) = False := by decide
    have z9_6 : ((9 : Int32) = 6) = False := by decide
    have z9_7 : ((9 : Int32) = 7) = False := by decide
    have z9_8 : ((9 : Int32) = 8) = False := by decide
    exact ⟨σ.1 54, by simp only [f_X11_count, obs, b10, b01, bm, if_true_, if_false_, eq_self, not_true_eq_false, not_false_eq_true, true_or, or_true, or_false, false_or, and_true, true_and, and_false, false_and, or_self, and_self, Bool.false_eq_true, ite_self, n25, n20, n24, n100, kk1 C, z9_0, z9_1, z9_2, z9_3, z9_4, z9_5, z9_6, z9_7, z9_8, ki1_13 C], by simp only [f_X12_count, obs, b10, b01, bm, if_true_, if_false_, eq_self, not_true_eq_false, not_false_eq_true, true_or, or_true, or_false, false_or, and_true, true_and, and_false, false_and, or_self, and_self, Bool.false_eq_true, ite_self, n25, n20, n24, n100, RS.kk H, RS.gi H, z9_0, z9_1, z9_2, z9_3, z9_4, z9_5, z9_6, z9_7, z9_8]⟩
  by_cases c10 : a = 10
  · subst c10
    have z10_0 : ((10 : Int32) = 0) = False := by decide
    have z10_1 : ((10 : Int32) = 1) = False := by decide
    have z10_2 : ((10 : Int32) = 2) = False := by decide
    have z10_3 : ((10 : Int32) = 3) = False := by decide
    have z10_4 : ((10 : Int32) = 4) = False := by decide
    have z10_5 : ((10 : Int32) = 5) = False := by decide
    have z10_6 : ((10 : Int32) = 6) = False := by decide
    have z10_7 : ((10 : Int32) = 7) = False := by decide
    have z10_8 : ((10 : Int32) = 8) = False := by decide
    have z10_9 : ((10 : Int32) = 9) = False := by decide
    rcases C.2.2.2.2.2.1 with ⟨q1, q2⟩ | ⟨j, q1, q2, q3, -⟩
    · exact ⟨0, by simp only [f_X11_count, obs, b10, b01, bm, if_true_, if_false_, eq_self, not_true_eq_false, not_false_eq_true, true_or, or_true, or_false, false_or, and_true, true_and, and_false, false_and, or_self, and_self, Bool.false_eq_true, ite_self, n25, n20, n24, n100, kk1 C, z10_0, z10_1, z10_2, z10_3, z10_4, z10_5, z10_6, z10_7, z10_8, z10_9, c_xgn C, q1, oel_n], by simp only [f_X12_count, obs, b10, b01, bm, if_true_, if_false_, eq_self, not_true_eq_false, not_false_eq_true, true_or, or_true, or_false, false_or, and_true, true_and, and_false, false_and, or_self, and_self, Bool.false_eq_true, ite_self, n25, n20, n24, n100, RS.kk H, RS.gi H, z10_0, z10_1, z10_2, z10_3, z10_4, z10_5, z10_6, z10_7, z10_8, z10_9, q2]⟩
    · exact ⟨σ.1 64, by simp (disch := omega) only [f_X11_count, obs, b10, b01, bm, if_true_, if_false_, eq_self, not_true_eq_false, not_false_eq_true, true_or, or_true, or_false, false_or, and_true, true_and, and_false, false_and, or_self, and_self, Bool.false_eq_true, ite_self, n25, n20, n24, n100, kk1 C, z10_0, z10_1, z10_2, z10_3, z10_4, z10_5, z10_6, z10_7, z10_8, z10_9, c_xgn C, q2, oel_s, c_xgc C, q3], by simp only [f_X12_count, obs, b10, b01, bm, if_true_, if_false_, eq_self, not_true_eq_false, not_false_eq_true, true_or, or_true, or_false, false_or, and_true, true_and, and_false, false_and, or_self, and_self, Bool.false_eq_true, ite_self, n25, n20, n24, n100, RS.kk H, RS.gi H, z10_0, z10_1, z10_2, z10_3, z10_4, z10_5, z10_6, z10_7, z10_8, z10_9]⟩
  by_cases c11 : a = 11
  · subst c11
    have z11_0 : ((11 : Int32) = 0) = False := by decide
    have z11_1 : ((11 : Int32) = 1) = False := by decide
    have z11_2 : ((11 : Int32) = 2) = False := by decide
    have z11_3 : ((11 : Int32) = 3) = False := by decide
    have z11_4 : ((11 : Int32) = 4) = False := by decide
    have z11_5 : ((11 : Int32) = 5) = False := by decide
    have z11_6 : ((11 : Int32) = 6) = False := by decide
    have z11_7 : ((11 : Int32) = 7) = False := by decide
    have z11_8 : ((11 : Int32) = 8) = False := by decide
    have z11_9 : ((11 : Int32) = 9) = False := by decide
    have z11_10 : ((11 : Int32) = 10) = False := by decide
    exact ⟨σ.1 55, by simp only [f_X11_count, obs, b10, b01, bm, if_true_, if_false_, eq_self, not_true_eq_false, not_false_eq_true, true_or, or_true, or_false, false_or, and_true, true_and, and_false, false_and, or_self, and_self, Bool.false_eq_true, ite_self, n25, n20, n24, n100, kk1 C, z11_0, z11_1, z11_2, z11_3, z11_4, z11_5, z11_6, z11_7, z11_8, z11_9, z11_10, kr1_11 C, ki21_3 C], by simp only [f_X12_count, obs, b10, b01, bm, if_true_, if_false_, eq_self, not_true_eq_false, not_false_eq_true, true_or, or_true, or_false, false_or, and_true, true_and, and_false, false_and, or_self, and_self, Bool.false_eq_true, ite_self, n25, n20, n24, n100, RS.kk H, RS.gi H, z11_0, z11_1, z11_2, z11_3, z11_4, z11_5, z11_6, z11_7, z11_8, z11_9, z11_10]⟩
  exact ⟨-2, by simp only [f_X11_count, obs, b10, b01, bm, if_true_, if_false_, eq_self, not_true_eq_false, not_false_eq_true, true_or, or_true, or_false, false_or, and_true, true_and, and_false, false_and, or_self, and_self, Bool.false_eq_true, ite_self, n25, n20, n24, n100, kk1 C, c0, c1, c2, c3, c4, c5, c6, c7, c8, c9, c10, c11], by simp only [f_X12_count, obs, b10, b01, bm, if_true_, if_false_, eq_self, not_true_eq_false, not_false_eq_true, true_or, or_true, or_false, false_or, and_true, true_and, and_false, false_and, or_self, and_self, Bool.false_eq_true, ite_self, n25, n20, n24, n100, RS.kk H, c0, c1, c2, c3, c4, c5, c6, c7, c8, c9, c10, c11]⟩
theorem pub_payment {a b : Int32} (I : INV L xs h σ tr u n) (hN : 2000 < N) : ∃ v, f_X11_payment h 1 a b = some v ∧ f_X12_payment h 100 a b = some v := by
  obtain ⟨C, H, W, X, S, U⟩ := id I
  have hG := W.1.g
  have hT := W.1.t
  have hF := W.1.f
  have hTl := W.1.tl
  have hP := W.1.p
  have hQ := W.1.q
  have hL := W.1.l
  have hin := @r_isPayment h σ H W.1
  rcases okC a (n := cn σ 49) (by omega) with oa | ⟨oa, p, hp, rfl⟩
  · exact ⟨-5, by simp only [f_X11_payment, obs, b10, b01, bm, if_true_, if_false_, eq_self, not_true_eq_false, not_false_eq_true, true_or, or_true, or_false, false_or, and_true, true_and, and_false, false_and, or_self, and_self, Bool.false_eq_true, ite_self, n25, n20, n24, n100, kk1 C, kr1_10 C, c_has20 C W.1, oa], by simp (disch := omega) only [f_X12_payment, obs, b10, b01, bm, if_true_, if_false_, eq_self, not_true_eq_false, not_false_eq_true, true_or, or_true, or_false, false_or, and_true, true_and, and_false, false_and, or_self, and_self, Bool.false_eq_true, ite_self, n25, n20, n24, n100, RS.kk H, RS.gi H, hQ.1, hin, oa]⟩
  by_cases c0 : b = 0
  · subst c0
    have z0_1 : ((0 : Int32) = 1) = False := by decide
    have z0_2 : ((0 : Int32) = 2) = False := by decide
    have z0_3 : ((0 : Int32) = 3) = False := by decide
    have z0_4 : ((0 : Int32) = 4) = False := by decide
    have z0_5 : ((0 : Int32) = 5) = False := by decide
    have ok0 : ok 0 4 = true := by decide
    exact ⟨σ.2 50 p, by simp (disch := omega) only [f_X11_payment, obs, b10, b01, bm, if_true_, if_false_, eq_self, not_true_eq_false, not_false_eq_true, true_or, or_true, or_false, false_or, and_true, true_and, and_false, false_and, or_self, and_self, Bool.false_eq_true, ite_self, n25, n20, n24, n100, kk1 C, kr1_10 C, c_has20 C W.1, oa, ci3, ok0, z0_1, z0_2, z0_3, z0_4, z0_5, ka20_0 C], by simp (disch := omega) only [f_X12_payment, obs, b10, b01, bm, if_true_, if_false_, eq_self, not_true_eq_false, not_false_eq_true, true_or, or_true, or_false, false_or, and_true, true_and, and_false, false_and, or_self, and_self, Bool.false_eq_true, ite_self, n25, n20, n24, n100, RS.kk H, RS.gi H, hQ.1, hin, oa, z0_1, z0_2, z0_3, z0_4, z0_5, rg50 H, ra50 H]⟩
  by_cases c1 : b = 1
  · subst c1
    have z1_0 : ((1 : Int32) = 0) = False := by decide
    have z1_2 : ((1 : Int32) = 2) = False := by decide
    have z1_3 : ((1 : Int32) = 3) = False := by decide
    have z1_4 : ((1 : Int32) = 4) = False := by decide
    have z1_5 : ((1 : Int32) = 5) = False := by decide
    have ok1 : ok 1 4 = true := by decide
    exact ⟨σ.2 51 p, by simp (disch := omega) only [f_X11_payment, obs, b10, b01, bm, if_true_, if_false_, eq_self, not_true_eq_false, not_false_eq_true, true_or, or_true, or_false, false_or, and_true, true_and, and_false, false_and, or_self, and_self, Bool.false_eq_true, ite_self, n25, n20, n24, n100, kk1 C, kr1_10 C, c_has20 C W.1, oa, ci3, ok1, z1_0, z1_2, z1_3, z1_4, z1_5, ka20_1 C], by simp (disch := omega) only [f_X12_payment, obs, b10, b01, bm, if_true_, if_false_, eq_self, not_true_eq_false, not_false_eq_true, true_or, or_true, or_false, false_or, and_true, true_and, and_false, false_and, or_self, and_self, Bool.false_eq_true, ite_self, n25, n20, n24, n100, RS.kk H, RS.gi H, hQ.1, hin, oa, z1_0, z1_2, z1_3, z1_4, z1_5, rg51 H, ra51 H]⟩
  by_cases c2 : b = 2
  · subst c2
    have z2_0 : ((2 : Int32) = 0) = False := by decide
    have z2_1 : ((2 : Int32) = 1) = False := by decide
    have z2_3 : ((2 : Int32) = 3) = False := by decide
    have z2_4 : ((2 : Int32) = 4) = False := by decide
    have z2_5 : ((2 : Int32) = 5) = False := by decide
    have ok2 : ok 2 4 = true := by decide
    exact ⟨σ.2 52 p, by simp (disch := omega) only [f_X11_payment, obs, b10, b01, bm, if_true_, if_false_, eq_self, not_true_eq_false, not_false_eq_true, true_or, or_true, or_false, false_or, and_true, true_and, and_false, false_and, or_self, and_self, Bool.false_eq_true, ite_self, n25, n20, n24, n100, kk1 C, kr1_10 C, c_has20 C W.1, oa, ci3, ok2, z2_0, z2_1, z2_3, z2_4, z2_5, ka20_2 C], by simp (disch := omega) only [f_X12_payment, obs, b10, b01, bm, if_true_, if_false_, eq_self, not_true_eq_false, not_false_eq_true, true_or, or_true, or_false, false_or, and_true, true_and, and_false, false_and, or_self, and_self, Bool.false_eq_true, ite_self, n25, n20, n24, n100, RS.kk H, RS.gi H, hQ.1, hin, oa, z2_0, z2_1, z2_3, z2_4, z2_5, rg52 H, ra52 H]⟩
  by_cases c3 : b = 3
  · subst c3
    have z3_0 : ((3 : Int32) = 0) = False := by decide
    have z3_1 : ((3 : Int32) = 1) = False := by decide
    have z3_2 : ((3 : Int32) = 2) = False := by decide
    have z3_4 : ((3 : Int32) = 4) = False := by decide
    have z3_5 : ((3 : Int32) = 5) = False := by decide
    have ok3 : ok 3 4 = true := by decide
    exact ⟨σ.2 53 p, by simp (disch := omega) only [f_X11_payment, obs, b10, b01, bm, if_true_, if_false_, eq_self, not_true_eq_false, not_false_eq_true, true_or, or_true, or_false, false_or, and_true, true_and, and_false, false_and, or_self, and_self, Bool.false_eq_true, ite_self, n25, n20, n24, n100, kk1 C, kr1_10 C, c_has20 C W.1, oa, ci3, ok3, z3_0, z3_1, z3_2, z3_4, z3_5, ka20_3 C], by simp (disch := omega) only [f_X12_payment, obs, b10, b01, bm, if_true_, if_false_, eq_self, not_true_eq_false, not_false_eq_true, true_or, or_true, or_false, false_or, and_true, true_and, and_false, false_and, or_self, and_self, Bool.false_eq_true, ite_self, n25, n20, n24, n100, RS.kk H, RS.gi H, hQ.1, hin, oa, z3_0, z3_1, z3_2, z3_4, z3_5, rg53 H, ra53 H]⟩
  have ob : ok b 4 = false := by
    rcases okC b (n := 4) (by decide) with q | ⟨_, k, hk, rfl⟩
    · exact q
    · exfalso
      have : k = 0 ∨ k = 1 ∨ k = 2 ∨ k = 3 := by omega
      rcases this with rfl | rfl | rfl | rfl
      · exact c0 (by decide)
      · exact c1 (by decide)
      · exact c2 (by decide)
      · exact c3 (by decide)
  exact ⟨-5, by simp only [f_X11_payment, obs, b10, b01, bm, if_true_, if_false_, eq_self, not_true_eq_false, not_false_eq_true, true_or, or_true, or_false, false_or, and_true, true_and, and_false, false_and, or_self, and_self, Bool.false_eq_true, ite_self, n25, n20, n24, n100, kk1 C, kr1_10 C, c_has20 C W.1, oa, ci3, ob], by simp (disch := omega) only [f_X12_payment, obs, b10, b01, bm, if_true_, if_false_, eq_self, not_true_eq_false, not_false_eq_true, true_or, or_true, or_false, false_or, and_true, true_and, and_false, false_and, or_self, and_self, Bool.false_eq_true, ite_self, n25, n20, n24, n100, RS.kk H, RS.gi H, hQ.1, hin, oa, c0, c1, c2, c3]⟩
def kinO (σ : SG) (c l : Nat) : Bool := decide (σ.2 43 l = σ.2 57 c) && (match gaugeOf σ (σ.2 56 c).toNatClampNeg (σ.2 57 c) with
  | none => false
  | some g => decide (gaugeOf σ (σ.2 42 l).toNatClampNeg (σ.2 57 c) = some g))
theorem oI_inj {o o' : Option Nat} (h1 : ∀ k, o = some k → k < 2 ^ 31) (h2 : ∀ k, o' = some k → k < 2 ^ 31) : (oI o = oI o') = (o = o') := by
  apply propext
  constructor
  · intro e
    cases o with
    | none =>
      cases o' with
      | none => rfl
      | some b => exact absurd e.symm (nI_neg (h2 b rfl))
    | some a =>
      cases o' with
      | none => exact absurd e (nI_neg (h1 a rfl))
      | some b =>
        have := (nI_eq (h1 a rfl) (h2 b rfl)).mp e
        rw [this]
  · intro e; rw [e]
theorem gg_b (W : CT σ) {f : Nat} {s : Int32} : ∀ k, gaugeOf σ f s = some k → k < 2 ^ 31 := by
  intro k e
  have := gaugeOf_lt e
  have := W.g
  omega
theorem r_isKin (H : RS h σ) (W : WV σ) {c l : Nat} (hc : c < cn σ 55) (hl : l < cn σ 41) (hN : 100 < N) : f_X12_isKin h N 100 (nI c) (nI l) = some (if kinO σ c l then 1 else 0) := by
  have hQ := W.1.q
  have hL := W.1.l
  have hF := W.1.f
  have hG := W.1.g
  obtain ⟨f1, l1, e1⟩ := wv56 W hc
  obtain ⟨f2, l2, e2⟩ := wv42 W hl
  rcases q : gaugeOf σ f1 (σ.2 57 c) with _ | g
  · simp (disch := omega) only [f_X12_isKin, kinO, obs, b10, b01, bm, if_true_, if_false_, eq_self, not_true_eq_false, not_false_eq_true, true_or, or_true, or_false, false_or, and_true, true_and, and_false, false_and, or_self, and_self, Bool.false_eq_true, ite_self, n25, n20, n24, n100, decide_true, decide_false, Bool.not_true, Bool.not_false, Bool.and_true, Bool.and_false, Bool.true_and, Bool.false_and, RS.kk H, rg57 H, ra57 H, rg56 H, ra56 H, e1, nI_clamp, r_gaugeOf H W.1, q, oI_n]
  · have hg := gaugeOf_lt q
    have hx : (oI (gaugeOf σ f2 (σ.2 57 c)) = nI g) = (gaugeOf σ f2 (σ.2 57 c) = some g) := oI_inj (o' := some g) (gg_b W.1) (fun k e => by have := Option.some.inj e; omega)
    by_cases q2 : σ.2 43 l = σ.2 57 c <;> by_cases q3 : gaugeOf σ f2 (σ.2 57 c) = some g <;> simp (disch := omega) only [f_X12_isKin, kinO, obs, b10, b01, bm, if_true_, if_false_, eq_self, not_true_eq_false, not_false_eq_true, true_or, or_true, or_false, false_or, and_true, true_and, and_false, false_and, or_self, and_self, Bool.false_eq_true, ite_self, n25, n20, n24, n100, decide_true, decide_false, Bool.not_true, Bool.not_false, Bool.and_true, Bool.and_false, Bool.true_and, Bool.false_and, RS.kk H, rg57 H, ra57 H, rg56 H, ra56 H, rg42 H, ra42 H, rg43 H, ra43 H, e1, e2, nI_clamp, r_gaugeOf H W.1, q, oI_s, nI_negF, q2, hx, q3]
theorem c_isKin (C : CS h σ tr u) (W : WV σ) {c l : Nat} (hc : c < cn σ 55) (hl : l < cn σ 41) (hN : 100 < N) : f_X11_isKin h N 1 (nI c) (nI l) = some (if kinO σ c l then 1 else 0) := by
  have hQ := W.1.q
  have hL := W.1.l
  have hF := W.1.f
  have hG := W.1.g
  obtain ⟨f1, l1, e1⟩ := wv56 W hc
  obtain ⟨f2, l2, e2⟩ := wv42 W hl
  rcases q : gaugeOf σ f1 (σ.2 57 c) with _ | g
  · by_cases q2 : σ.2 43 l = σ.2 57 c <;> simp (disch := omega) only [f_X11_isKin, kinO, obs, b10, b01, bm, if_true_, if_false_, eq_self, not_true_eq_false, not_false_eq_true, true_or, or_true, or_false, false_or, and_true, true_and, and_false, false_and, or_self, and_self, Bool.false_eq_true, ite_self, n25, n20, n24, n100, decide_true, decide_false, Bool.not_true, Bool.not_false, Bool.and_true, Bool.and_false, Bool.true_and, Bool.false_and, kk1 C, kr1_11 C, kr1_9 C, kr1_2 C, ka21_1 C, ka19_1 C, ka21_0 C, kg12 C W.1, kc300 C, e1, nI_clamp, c_gaugeOf C W, q, q2, oI_n]
  · have hg := gaugeOf_lt q
    have hx : (nI g = oI (gaugeOf σ f2 (σ.2 57 c))) = (some g = gaugeOf σ f2 (σ.2 57 c)) := oI_inj (o := some g) (fun k e => by have := Option.some.inj e; omega) (gg_b W.1)
    by_cases q2 : σ.2 43 l = σ.2 57 c <;> by_cases q3 : gaugeOf σ f2 (σ.2 57 c) = some g <;> simp (disch := omega) only [f_X11_isKin, kinO, obs, b10, b01, bm, if_true_, if_false_, eq_self, not_true_eq_false, not_false_eq_true, true_or, or_true, or_false, false_or, and_true, true_and, and_false, false_and, or_self, and_self, Bool.false_eq_true, ite_self, n25, n20, n24, n100, decide_true, decide_false, Bool.not_true, Bool.not_false, Bool.and_true, Bool.and_false, Bool.true_and, Bool.false_and, kk1 C, kr1_11 C, kr1_9 C, kr1_2 C, ka21_1 C, ka19_1 C, ka21_0 C, ka19_0 C, kg12 C W.1, kc300 C, e1, e2, nI_clamp, c_gaugeOf C W, q, oI_s, nI_negF, q2, hx, eq_comm (a := some g), q3]
def kinS (σ : SG) (c l : Nat) (x : Int32) : Int32 := if kinO σ c l then x + 1 else x
theorem pub_complaint {a b : Int32} (I : INV L xs h σ tr u n) (hN : 2000 < N) : ∃ v, f_X11_complaint h N 1 a b = some v ∧ f_X12_complaint h N 100 a b = some v := by
  obtain ⟨C, H, W, X, S, U⟩ := id I
  have hG := W.1.g
  have hT := W.1.t
  have hF := W.1.f
  have hTl := W.1.tl
  have hP := W.1.p
  have hQ := W.1.q
  have hL := W.1.l
  have hin := @in_ok1 h
  rcases okC a (n := cn σ 55) (by omega) with oa | ⟨oa, p, hp, rfl⟩
  · exact ⟨-5, by simp only [f_X11_complaint, obs, b10, b01, bm, if_true_, if_false_, eq_self, not_true_eq_false, not_false_eq_true, true_or, or_true, or_false, false_or, and_true, true_and, and_false, false_and, or_self, and_self, Bool.false_eq_true, ite_self, n25, n20, n24, n100, kk1 C, kr1_11 C, c_has21 C W.1, oa], by simp (disch := omega) only [f_X12_complaint, obs, b10, b01, bm, if_true_, if_false_, eq_self, not_true_eq_false, not_false_eq_true, true_or, or_true, or_false, false_or, and_true, true_and, and_false, false_and, or_self, and_self, Bool.false_eq_true, ite_self, n25, n20, n24, n100, RS.kk H, RS.gi H, hQ.1, hin, oa]⟩
  by_cases c0 : b = 0
  · subst c0
    have z0_1 : ((0 : Int32) = 1) = False := by decide
    have z0_2 : ((0 : Int32) = 2) = False := by decide
    have z0_3 : ((0 : Int32) = 3) = False := by decide
    have z0_4 : ((0 : Int32) = 4) = False := by decide
    have z0_5 : ((0 : Int32) = 5) = False := by decide
    have z0_6 : ((0 : Int32) = 6) = False := by decide
    have ok0 : ok 0 5 = true := by decide
    exact ⟨σ.2 56 p, by simp (disch := omega) only [f_X11_complaint, obs, b10, b01, bm, if_true_, if_false_, eq_self, not_true_eq_false, not_false_eq_true, true_or, or_true, or_false, false_or, and_true, true_and, and_false, false_and, or_self, and_self, Bool.false_eq_true, ite_self, n25, n20, n24, n100, kk1 C, kr1_11 C, c_has21 C W.1, oa, ci4, ok0, z0_1, z0_2, z0_3, z0_4, z0_5, z0_6, ka21_0 C], by simp (disch := omega) only [f_X12_complaint, obs, b10, b01, bm, if_true_, if_false_, eq_self, not_true_eq_false, not_false_eq_true, true_or, or_true, or_false, false_or, and_true, true_and, and_false, false_and, or_self, and_self, Bool.false_eq_true, ite_self, n25, n20, n24, n100, RS.kk H, RS.gi H, hQ.1, hin, oa, z0_1, z0_2, z0_3, z0_4, z0_5, z0_6, rg56 H, ra56 H]⟩
  by_cases c1 : b = 1
  · subst c1
    have z1_0 : ((1 : Int32) = 0) = False := by decide
    have z1_2 : ((1 : Int32) = 2) = False := by decide
    have z1_3 : ((1 : Int32) = 3) = False := by decide
    have z1_4 : ((1 : Int32) = 4) = False := by decide
    have z1_5 : ((1 : Int32) = 5) = False := by decide
    have z1_6 : ((1 : Int32) = 6) = False := by decide
    have ok1 : ok 1 5 = true := by decide
    exact ⟨σ.2 57 p, by simp (disch := omega) only [f_X11_complaint, obs, b10, b01, bm, if_true_, if_false_, eq_self, not_true_eq_false, not_false_eq_true, true_or, or_true, or_false, false_or, and_true, true_and, and_false, false_and, or_self, and_self, Bool.false_eq_true, ite_self, n25, n20, n24, n100, kk1 C, kr1_11 C, c_has21 C W.1, oa, ci4, ok1, z1_0, z1_2, z1_3, z1_4, z1_5, z1_6, ka21_1 C], by simp (disch := omega) only [f_X12_complaint, obs, b10, b01, bm, if_true_, if_false_, eq_self, not_true_eq_false, not_false_eq_true, true_or, or_true, or_false, false_or, and_true, true_and, and_false, false_and, or_self, and_self, Bool.false_eq_true, ite_self, n25, n20, n24, n100, RS.kk H, RS.gi H, hQ.1, hin, oa, z1_0, z1_2, z1_3, z1_4, z1_5, z1_6, rg57 H, ra57 H]⟩
  by_cases c2 : b = 2
  · subst c2
    have z2_0 : ((2 : Int32) = 0) = False := by decide
    have z2_1 : ((2 : Int32) = 1) = False := by decide
    have z2_3 : ((2 : Int32) = 3) = False := by decide
    have z2_4 : ((2 : Int32) = 4) = False := by decide
    have z2_5 : ((2 : Int32) = 5) = False := by decide
    have z2_6 : ((2 : Int32) = 6) = False := by decide
    have ok2 : ok 2 5 = true := by decide
    exact ⟨σ.2 58 p, by simp (disch := omega) only [f_X11_complaint, obs, b10, b01, bm, if_true_, if_false_, eq_self, not_true_eq_false, not_false_eq_true, true_or, or_true, or_false, false_or, and_true, true_and, and_false, false_and, or_self, and_self, Bool.false_eq_true, ite_self, n25, n20, n24, n100, kk1 C, kr1_11 C, c_has21 C W.1, oa, ci4, ok2, z2_0, z2_1, z2_3, z2_4, z2_5, z2_6, ka21_2 C], by simp (disch := omega) only [f_X12_complaint, obs, b10, b01, bm, if_true_, if_false_, eq_self, not_true_eq_false, not_false_eq_true, true_or, or_true, or_false, false_or, and_true, true_and, and_false, false_and, or_self, and_self, Bool.false_eq_true, ite_self, n25, n20, n24, n100, RS.kk H, RS.gi H, hQ.1, hin, oa, z2_0, z2_1, z2_3, z2_4, z2_5, z2_6, rg58 H, ra58 H]⟩
  by_cases c3 : b = 3
  · subst c3
    have z3_0 : ((3 : Int32) = 0) = False := by decide
    have z3_1 : ((3 : Int32) = 1) = False := by decide
    have z3_2 : ((3 : Int32) = 2) = False := by decide
    have z3_4 : ((3 : Int32) = 4) = False := by decide
    have z3_5 : ((3 : Int32) = 5) = False := by decide
    have z3_6 : ((3 : Int32) = 6) = False := by decide
    have ok3 : ok 3 5 = true := by decide
    exact ⟨σ.2 59 p, by simp (disch := omega) only [f_X11_complaint, obs, b10, b01, bm, if_true_, if_false_, eq_self, not_true_eq_false, not_false_eq_true, true_or, or_true, or_false, false_or, and_true, true_and, and_false, false_and, or_self, and_self, Bool.false_eq_true, ite_self, n25, n20, n24, n100, kk1 C, kr1_11 C, c_has21 C W.1, oa, ci4, ok3, z3_0, z3_1, z3_2, z3_4, z3_5, z3_6, ka21_3 C], by simp (disch := omega) only [f_X12_complaint, obs, b10, b01, bm, if_true_, if_false_, eq_self, not_true_eq_false, not_false_eq_true, true_or, or_true, or_false, false_or, and_true, true_and, and_false, false_and, or_self, and_self, Bool.false_eq_true, ite_self, n25, n20, n24, n100, RS.kk H, RS.gi H, hQ.1, hin, oa, z3_0, z3_1, z3_2, z3_4, z3_5, z3_6, rg59 H, ra59 H]⟩
  by_cases c4 : b = 4
  · subst c4
    have z4_0 : ((4 : Int32) = 0) = False := by decide
    have z4_1 : ((4 : Int32) = 1) = False := by decide
    have z4_2 : ((4 : Int32) = 2) = False := by decide
    have z4_3 : ((4 : Int32) = 3) = False := by decide
    have z4_5 : ((4 : Int32) = 5) = False := by decide
    have z4_6 : ((4 : Int32) = 6) = False := by decide
    have ok4 : ok 4 5 = true := by decide
    exact ⟨σ.2 60 p, by simp (disch := omega) only [f_X11_complaint, obs, b10, b01, bm, if_true_, if_false_, eq_self, not_true_eq_false, not_false_eq_true, true_or, or_true, or_false, false_or, and_true, true_and, and_false, false_and, or_self, and_self, Bool.false_eq_true, ite_self, n25, n20, n24, n100, kk1 C, kr1_11 C, c_has21 C W.1, oa, ci4, ok4, z4_0, z4_1, z4_2, z4_3, z4_5, z4_6, ka21_4 C], by simp (disch := omega) only [f_X12_complaint, obs, b10, b01, bm, if_true_, if_false_, eq_self, not_true_eq_false, not_false_eq_true, true_or, or_true, or_false, false_or, and_true, true_and, and_false, false_and, or_self, and_self, Bool.false_eq_true, ite_self, n25, n20, n24, n100, RS.kk H, RS.gi H, hQ.1, hin, oa, z4_0, z4_1, z4_2, z4_3, z4_5, z4_6, rg60 H, ra60 H]⟩
  have ob : ok b 5 = false := by
    rcases okC b (n := 5) (by decide) with q | ⟨_, k, hk, rfl⟩
    · exact q
    · exfalso
      have : k = 0 ∨ k = 1 ∨ k = 2 ∨ k = 3 ∨ k = 4 := by omega
      rcases this with rfl | rfl | rfl | rfl | rfl
      · exact c0 (by decide)
      · exact c1 (by decide)
      · exact c2 (by decide)
      · exact c3 (by decide)
      · exact c4 (by decide)
  by_cases c5 : b = 5
  · subst c5
    have z0 : ((5 : Int32) = 0) = False := by decide
    have z1 : ((5 : Int32) = 1) = False := by decide
    have z2 : ((5 : Int32) = 2) = False := by decide
    have z3 : ((5 : Int32) = 3) = False := by decide
    have z4 : ((5 : Int32) = 4) = False := by decide
    refine ⟨itr (kinS σ p) 0 (cn σ 41) 0, ?_, ?_⟩
    · simp only [f_X11_complaint, f_X11_kinOf, obs, b10, b01, bm, if_true_, if_false_, eq_self, not_true_eq_false, not_false_eq_true, true_or, or_true, or_false, false_or, and_true, true_and, and_false, false_and, or_self, and_self, Bool.false_eq_true, ite_self, n25, n20, n24, n100, kk1 C, kr1_11 C, c_has21 C W.1, oa]
      have := lpB (fun n i x => f_X11_kinOf_b4 h N n 1 (nI p) x (nI i)) (kinS σ p) (cn σ 41) (fun x => some x) ?_ ?_ (m := cn σ 41) (N := N) (i := 0) (a := 0) (by omega) (by omega)
      · simp only [il0] at this
        rw [this, obs]
      · intro n x
        simp (disch := omega) only [f_X11_kinOf_b4, f_X11_kinOf_b4_body, obs, b10, b01, bm, if_true_, if_false_, eq_self, not_true_eq_false, not_false_eq_true, true_or, or_true, or_false, false_or, and_true, true_and, and_false, false_and, or_self, and_self, Bool.false_eq_true, ite_self, n25, n20, n24, n100, kr1_9 C, ki19_3 C, hL.1, nI_leI, Nat.le_refl]
      · intro n i x hi
        have hn : ¬ cn σ 41 ≤ i := by omega
        rcases q : kinO σ p i <;> simp (disch := omega) only [f_X11_kinOf_b4, f_X11_kinOf_b4_body, f_X11_kinOf_b27, obs, b10, b01, bm, if_true_, if_false_, eq_self, not_true_eq_false, not_false_eq_true, true_or, or_true, or_false, false_or, and_true, true_and, and_false, false_and, or_self, and_self, Bool.false_eq_true, ite_self, n25, n20, n24, n100, kr1_9 C, ki19_3 C, hL.1, nI_leI, hn, c_isKin C W, q, kinS, nI_1]
    · simp (disch := omega) only [f_X12_complaint, obs, b10, b01, bm, if_true_, if_false_, eq_self, not_true_eq_false, not_false_eq_true, true_or, or_true, or_false, false_or, and_true, true_and, and_false, false_and, or_self, and_self, Bool.false_eq_true, ite_self, n25, n20, n24, n100, RS.kk H, RS.gi H, hQ.1, hin, oa, z0, z1, z2, z3, z4]
      refine lpB (fun n i x => f_X12_complaint_b96 h N n 100 (nI p) x (nI i)) (kinS σ p) (cn σ 41) (fun x => some x) ?_ ?_ (m := cn σ 41) (i := 0) (by omega) (by omega)
      · intro n x
        simp (disch := omega) only [f_X12_complaint_b96, f_X12_complaint_b96_body, obs, b10, b01, bm, if_true_, if_false_, eq_self, not_true_eq_false, not_false_eq_true, true_or, or_true, or_false, false_or, and_true, true_and, and_false, false_and, or_self, and_self, Bool.false_eq_true, ite_self, n25, n20, n24, n100, RS.gi H, hL.1, nI_leI, Nat.le_refl]
      · intro n i x hi
        have hn : ¬ cn σ 41 ≤ i := by omega
        rcases q : kinO σ p i <;> simp (disch := omega) only [f_X12_complaint_b96, f_X12_complaint_b96_body, f_X12_complaint_b121, obs, b10, b01, bm, if_true_, if_false_, eq_self, not_true_eq_false, not_false_eq_true, true_or, or_true, or_false, false_or, and_true, true_and, and_false, false_and, or_self, and_self, Bool.false_eq_true, ite_self, n25, n20, n24, n100, RS.gi H, hL.1, nI_leI, hn, r_isKin H W, q, kinS, Int32.add_zero, nI_1]
  exact ⟨-5, by simp only [f_X11_complaint, obs, b10, b01, bm, if_true_, if_false_, eq_self, not_true_eq_false, not_false_eq_true, true_or, or_true, or_false, false_or, and_true, true_and, and_false, false_and, or_self, and_self, Bool.false_eq_true, ite_self, n25, n20, n24, n100, kk1 C, kr1_11 C, c_has21 C W.1, oa, ci4, ob, c5], by simp (disch := omega) only [f_X12_complaint, obs, b10, b01, bm, if_true_, if_false_, eq_self, not_true_eq_false, not_false_eq_true, true_or, or_true, or_false, false_or, and_true, true_and, and_false, false_and, or_self, and_self, Bool.false_eq_true, ite_self, n25, n20, n24, n100, RS.kk H, RS.gi H, hQ.1, hin, oa, c0, c1, c2, c3, c4, c5]⟩
end
