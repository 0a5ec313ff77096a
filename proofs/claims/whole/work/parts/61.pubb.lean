/-! ===== public: odd, of, line ===== -/
section
variable {L N : Nat} {xs : Nat → Int32} {h h' : AH} {σ σ' : SG} {tr : Nat → Nat} {u n : Nat}

theorem vK_b1 (W : WV σ) {k c : Nat} : bd (vK σ k c + 1) 10001 := by
  rcases vK_RB W.2.2.2.1 k c with q | ⟨x, hx, q⟩
  · rw [q]; exact ⟨0, by omega, by decide⟩
  · rw [q, nI_1]; exact ⟨x + 1, by omega, rfl⟩
theorem edge_b1 (W : WV σ) {k g s w : Nat} {what : Int32} : bd (edgeO σ (vK σ k) what g s w + 1) 10001 :=
  itr_inv (st := edS σ (vK σ k) what g s w) (fun _ x => bd (x + 1) 10001) (m := cn σ 0) (i := 0) (a := -1) ⟨0, by omega, by decide⟩ (fun j b _ _ hb => by
    unfold edS
    split
    · exact vK_b1 W
    · exact hb)
theorem edge_ne (W : WV σ) {k g s w : Nat} (h0 : ¬ edgeO σ (vK σ k) 0 g s w = -1) : ¬ edgeO σ (vK σ k) 1 g s w = -1 := by
  have key : ∀ m, itr (edS σ (vK σ k) 1 g s w) 0 m (-1) = -1 → itr (edS σ (vK σ k) 0 g s w) 0 m (-1) = -1 := by
    intro m
    have : ∀ (m i : Nat) (a b : Int32), (b = -1 → a = -1) → itr (edS σ (vK σ k) 1 g s w) i m b = -1 → itr (edS σ (vK σ k) 0 g s w) i m a = -1 := by
      intro m
      induction m with
      | zero => intro i a b hab hb; exact hab hb
      | succ m ih =>
        intro i a b hab hb
        refine ih (i + 1) _ (edS σ (vK σ k) 1 g s w i b) ?_ hb
        intro e
        unfold edS at e ⊢
        by_cases c1 : ¬ (g = i ∨ σ.2 5 0 < betw σ g i) ∧ ¬ vK σ k (sp i s w) = -1
        · exfalso
          by_cases c2 : b = -1
          · rw [if_pos ⟨c1.1, c1.2, Or.inl c2⟩] at e
            exact c1.2 e
          · split at e
            · exact c1.2 e
            · exact c2 e
        · have c3 : b = -1 := by
            split at e
            · rename_i q; exact absurd ⟨q.1, q.2.1⟩ c1
            · exact e
          rw [if_neg (fun q => c1 ⟨q.1, q.2.1⟩)]
          exact hab c3
    exact this m 0 (-1) (-1) (fun e => e)
  exact fun e => h0 (key (cn σ 0) e)
def oddO (σ : SG) (g s w : Nat) : Bool := if vK σ (cn σ 7) (sp g s w) = -1 then false else if edgeO σ (vK σ (cn σ 7)) 0 g s w = -1 then false else
  (decide (vK σ (cn σ 7) (sp g s w) < edgeO σ (vK σ (cn σ 7)) 0 g s w - σ.2 5 1) || !decide (vK σ (cn σ 7) (sp g s w) ≤ edgeO σ (vK σ (cn σ 7)) 1 g s w + σ.2 5 1))
theorem i3_sub {a b : Int32} (h1 : -2147483648 ≤ a.toInt - b.toInt) (h2 : a.toInt - b.toInt < 2147483648) : (a - b).toInt = a.toInt - b.toInt := by
  rw [Int32.toInt_sub]
  apply Int.bmod_eq_of_le <;> omega
theorem i3_add {a b : Int32} (h1 : -2147483648 ≤ a.toInt + b.toInt) (h2 : a.toInt + b.toInt < 2147483648) : (a + b).toInt = a.toInt + b.toInt := by
  rw [Int32.toInt_add]
  apply Int.bmod_eq_of_le <;> omega
theorem p1_int {a : Int32} {n : Nat} (h : bd (a + 1) (n + 1)) (hn : n < 2 ^ 31) : -1 ≤ a.toInt ∧ a.toInt < n := by
  rcases bd_p1 h with q | q
  · rw [q, show (-1 : Int32).toInt = -1 by decide]; omega
  · have := bd_int q (by omega); omega
theorem c_oddWeek (C : CS h σ tr u) (W : WV σ) {g s w : Nat} (hg : g < cn σ 0) (hs : s < 16) (hw : w < 12) (hN : 2000 < N) : f_X11_isOddWeek h N 1 (nI g) (nI s) (nI w) = some (if oddO σ g s w then 1 else 0) := by
  have hG := W.1.g
  have hTl := W.1.tl
  have e5 : xia h 16 1 = some (σ.2 5 1) := kx16 C (j := 1) (by omega)
  have b1 := p1_int (vK_b1 W (k := cn σ 7) (c := sp g s w)) (by decide)
  have b2 := p1_int (edge_b1 W (k := cn σ 7) (g := g) (s := s) (w := w) (what := 0)) (by decide)
  have b3 := p1_int (edge_b1 W (k := cn σ 7) (g := g) (s := s) (w := w) (what := 1)) (by decide)
  have b4 := bd_int W.2.2.1.2.1 (by decide)
  by_cases q1 : vK σ (cn σ 7) (sp g s w) = -1
  · simp (disch := omega) only [f_X11_isOddWeek, obs, b10, b01, bm, if_true_, if_false_, eq_self, not_true_eq_false, not_false_eq_true, true_or, or_true, or_false, false_or, and_true, true_and, and_false, false_and, or_self, and_self, Bool.false_eq_true, ite_self, n25, n20, n24, n100, kk1 C, kr1_4 C, c_now C W.1, c_asKnown C W.1, c_extreme C W, q1, oddO]
  · by_cases q2 : edgeO σ (vK σ (cn σ 7)) 0 g s w = -1
    · simp (disch := omega) only [f_X11_isOddWeek, obs, b10, b01, bm, if_true_, if_false_, eq_self, not_true_eq_false, not_false_eq_true, true_or, or_true, or_false, false_or, and_true, true_and, and_false, false_and, or_self, and_self, Bool.false_eq_true, ite_self, n25, n20, n24, n100, kk1 C, kr1_4 C, c_now C W.1, c_asKnown C W.1, c_extreme C W, q1, q2, oddO]
    · have x1 : (σ.2 5 1 < edgeO σ (vK σ (cn σ 7)) 0 g s w - vK σ (cn σ 7) (sp g s w)) ↔ (vK σ (cn σ 7) (sp g s w) < edgeO σ (vK σ (cn σ 7)) 0 g s w - σ.2 5 1) := by
        rw [Int32.lt_iff_toInt_lt, Int32.lt_iff_toInt_lt, i3_sub (by omega) (by omega), i3_sub (by omega) (by omega)]
        omega
      have x2 : (vK σ (cn σ 7) (sp g s w) - edgeO σ (vK σ (cn σ 7)) 1 g s w ≤ σ.2 5 1) ↔ (vK σ (cn σ 7) (sp g s w) ≤ edgeO σ (vK σ (cn σ 7)) 1 g s w + σ.2 5 1) := by
        rw [Int32.le_iff_toInt_le, Int32.le_iff_toInt_le, i3_sub (by omega) (by omega), i3_add (by omega) (by omega)]
        omega
      by_cases y1 : vK σ (cn σ 7) (sp g s w) < edgeO σ (vK σ (cn σ 7)) 0 g s w - σ.2 5 1 <;> by_cases y2 : vK σ (cn σ 7) (sp g s w) ≤ edgeO σ (vK σ (cn σ 7)) 1 g s w + σ.2 5 1 <;> simp (disch := omega) only [f_X11_isOddWeek, f_X11_isOddWeek_b78, obs, b10, b01, bm, if_true_, if_false_, eq_self, not_true_eq_false, not_false_eq_true, true_or, or_true, or_false, false_or, and_true, true_and, and_false, false_and, or_self, and_self, Bool.false_eq_true, ite_self, n25, n20, n24, n100, kk1 C, kr1_4 C, kr1_6 C, e5, c_now C W.1, c_asKnown C W.1, c_extreme C W, q1, q2, oddO, x1, x2, y1, y2, decide_true, decide_false, Bool.not_true, Bool.not_false, Bool.and_true, Bool.and_false, Bool.true_and, Bool.false_and, Bool.or_true, Bool.or_false, Bool.true_or, Bool.false_or]
theorem pub_odd {a b : Int32} (I : INV L xs h σ tr u n) (hN : 2000 < N) : ∃ v, f_X11_odd h N 1 a b = some v ∧ f_X12_odd h N 100 a b = some v := by
  obtain ⟨C, H, W, X, S, U⟩ := id I
  have hG := W.1.g
  have hT := W.1.t
  have hF := W.1.f
  have hTl := W.1.tl
  rcases okC a (n := cn σ 0) (by omega) with oa | ⟨oa, g, hg, rfl⟩
  · exact ⟨-1, by simp only [f_X11_odd, obs, b10, b01, bm, if_true_, if_false_, eq_self, not_true_eq_false, not_false_eq_true, true_or, or_true, or_false, false_or, and_true, true_and, and_false, false_and, or_self, and_self, Bool.false_eq_true, ite_self, n25, n20, n24, n100, kk1 C, RS.kk H, c_isGauge C W.1, c_isTerm C W.1, c_isFarm C W.1, c_isSeason, c_isPlace, r_isGauge H W.1, r_isTerm H W.1, r_isFarm H W.1, r_isSeason, r_isWeek, r_isPlace, r_isSheet, ci1, ri1, ci2, ri2, ci3, ri3, ci4, ri4, ci5, ri5, ci11, ri11, ci16, ri16, ci98, ri98, ci99, ri99, ci198, ri198, ci9999, ri9999, oa], by simp only [f_X12_odd, obs, b10, b01, bm, if_true_, if_false_, eq_self, not_true_eq_false, not_false_eq_true, true_or, or_true, or_false, false_or, and_true, true_and, and_false, false_and, or_self, and_self, Bool.false_eq_true, ite_self, n25, n20, n24, n100, kk1 C, RS.kk H, c_isGauge C W.1, c_isTerm C W.1, c_isFarm C W.1, c_isSeason, c_isPlace, r_isGauge H W.1, r_isTerm H W.1, r_isFarm H W.1, r_isSeason, r_isWeek, r_isPlace, r_isSheet, ci1, ri1, ci2, ri2, ci3, ri3, ci4, ri4, ci5, ri5, ci11, ri11, ci16, ri16, ci98, ri98, ci99, ri99, ci198, ri198, ci9999, ri9999, oa]⟩
  rcases okC b (n := 16) (by decide) with ob | ⟨ob, s, hs, rfl⟩
  · exact ⟨-1, by simp only [f_X11_odd, obs, b10, b01, bm, if_true_, if_false_, eq_self, not_true_eq_false, not_false_eq_true, true_or, or_true, or_false, false_or, and_true, true_and, and_false, false_and, or_self, and_self, Bool.false_eq_true, ite_self, n25, n20, n24, n100, kk1 C, RS.kk H, c_isGauge C W.1, c_isTerm C W.1, c_isFarm C W.1, c_isSeason, c_isPlace, r_isGauge H W.1, r_isTerm H W.1, r_isFarm H W.1, r_isSeason, r_isWeek, r_isPlace, r_isSheet, ci1, ri1, ci2, ri2, ci3, ri3, ci4, ri4, ci5, ri5, ci11, ri11, ci16, ri16, ci98, ri98, ci99, ri99, ci198, ri198, ci9999, ri9999, oa, ob], by simp only [f_X12_odd, obs, b10, b01, bm, if_true_, if_false_, eq_self, not_true_eq_false, not_false_eq_true, true_or, or_true, or_false, false_or, and_true, true_and, and_false, false_and, or_self, and_self, Bool.false_eq_true, ite_self, n25, n20, n24, n100, kk1 C, RS.kk H, c_isGauge C W.1, c_isTerm C W.1, c_isFarm C W.1, c_isSeason, c_isPlace, r_isGauge H W.1, r_isTerm H W.1, r_isFarm H W.1, r_isSeason, r_isWeek, r_isPlace, r_isSheet, ci1, ri1, ci2, ri2, ci3, ri3, ci4, ri4, ci5, ri5, ci11, ri11, ci16, ri16, ci98, ri98, ci99, ri99, ci198, ri198, ci9999, ri9999, oa, ob]⟩
  have e5 : xia h 105 1 = some (σ.2 5 1) := ra5 H (n := 1) (by omega)
  have T0 : ∀ {i w : Nat}, i < 8 → w < 12 → f_X12_rainOf h 100 0 (nI i) (nI s) (nI w) = some (vK σ (cn σ 7) (sp i s w)) := fun hi hw => r_rainOf H (TB0 W) hi hs hw
  refine ⟨itr (fun w x => if oddO σ g s w then x + 1 else x) 0 12 0, ?_, ?_⟩
  · simp (disch := omega) only [f_X11_odd, obs, b10, b01, bm, if_true_, if_false_, eq_self, not_true_eq_false, not_false_eq_true, true_or, or_true, or_false, false_or, and_true, true_and, and_false, false_and, or_self, and_self, Bool.false_eq_true, ite_self, n25, n20, n24, n100, kk1 C, RS.kk H, c_isGauge C W.1, c_isTerm C W.1, c_isFarm C W.1, c_isSeason, c_isPlace, r_isGauge H W.1, r_isTerm H W.1, r_isFarm H W.1, r_isSeason, r_isWeek, r_isPlace, r_isSheet, ci1, ri1, ci2, ri2, ci3, ri3, ci4, ri4, ci5, ri5, ci11, ri11, ci16, ri16, ci98, ri98, ci99, ri99, ci198, ri198, ci9999, ri9999, oa, ob]
    refine lpB (fun n i x => f_X11_odd_b22 h N n 1 (nI g) (nI s) x (nI i)) (fun w x => if oddO σ g s w then x + 1 else x) 12 (fun x => some x) ?_ ?_ (m := 12) (i := 0) rfl (by omega)
    · intro n x
      simp (disch := omega) only [f_X11_odd_b22, f_X11_odd_b22_body, obs, b10, b01, bm, if_true_, if_false_, eq_self, not_true_eq_false, not_false_eq_true, true_or, or_true, or_false, false_or, and_true, true_and, and_false, false_and, or_self, and_self, Bool.false_eq_true, ite_self, n25, n20, n24, n100, lt12, nI_leI, Nat.le_refl]
    · intro n i x hi
      have hn : ¬ 12 ≤ i := by omega
      rcases q : oddO σ g s i <;> simp (disch := omega) only [f_X11_odd_b22, f_X11_odd_b22_body, f_X11_odd_b43, obs, b10, b01, bm, if_true_, if_false_, eq_self, not_true_eq_false, not_false_eq_true, true_or, or_true, or_false, false_or, and_true, true_and, and_false, false_and, or_self, and_self, Bool.false_eq_true, ite_self, n25, n20, n24, n100, lt12, nI_leI, hn, c_oddWeek C W, q, nI_1]
  · simp (disch := omega) only [f_X12_odd, obs, b10, b01, bm, if_true_, if_false_, eq_self, not_true_eq_false, not_false_eq_true, true_or, or_true, or_false, false_or, and_true, true_and, and_false, false_and, or_self, and_self, Bool.false_eq_true, ite_self, n25, n20, n24, n100, kk1 C, RS.kk H, c_isGauge C W.1, c_isTerm C W.1, c_isFarm C W.1, c_isSeason, c_isPlace, r_isGauge H W.1, r_isTerm H W.1, r_isFarm H W.1, r_isSeason, r_isWeek, r_isPlace, r_isSheet, ci1, ri1, ci2, ri2, ci3, ri3, ci4, ri4, ci5, ri5, ci11, ri11, ci16, ri16, ci98, ri98, ci99, ri99, ci198, ri198, ci9999, ri9999, oa, ob]
    refine lpB (fun n i x => f_X12_odd_b22 h N n 100 (nI g) (nI s) x (nI i)) (fun w x => if oddO σ g s w then x + 1 else x) 12 (fun x => some x) ?_ ?_ (m := 12) (i := 0) rfl (by omega)
    · intro n x
      simp (disch := omega) only [f_X12_odd_b22, f_X12_odd_b22_body, obs, b10, b01, bm, if_true_, if_false_, eq_self, not_true_eq_false, not_false_eq_true, true_or, or_true, or_false, false_or, and_true, true_and, and_false, false_and, or_self, and_self, Bool.false_eq_true, ite_self, n25, n20, n24, n100, lt12, nI_leI, Nat.le_refl]
    · intro n i x hi
      have hn : ¬ 12 ≤ i := by omega
      by_cases q1 : vK σ (cn σ 7) (sp g s i) = -1
      · simp (disch := omega) only [f_X12_odd_b22, f_X12_odd_b22_body, f_X12_odd_b102, f_X12_odd_b103, f_X12_odd_b116, obs, b10, b01, bm, if_true_, if_false_, eq_self, not_true_eq_false, not_false_eq_true, true_or, or_true, or_false, false_or, and_true, true_and, and_false, false_and, or_self, and_self, Bool.false_eq_true, ite_self, n25, n20, n24, n100, lt12, nI_leI, hn, T0, r_edge H W.1 (TB0 W), q1, oddO, Int32.add_zero, nI_1]
      · by_cases q2 : edgeO σ (vK σ (cn σ 7)) 0 g s i = -1
        · simp (disch := omega) only [f_X12_odd_b22, f_X12_odd_b22_body, f_X12_odd_b102, f_X12_odd_b103, f_X12_odd_b116, obs, b10, b01, bm, if_true_, if_false_, eq_self, not_true_eq_false, not_false_eq_true, true_or, or_true, or_false, false_or, and_true, true_and, and_false, false_and, or_self, and_self, Bool.false_eq_true, ite_self, n25, n20, n24, n100, lt12, nI_leI, hn, T0, r_edge H W.1 (TB0 W), q1, q2, oddO, Int32.add_zero, nI_1]
        · by_cases y1 : vK σ (cn σ 7) (sp g s i) < edgeO σ (vK σ (cn σ 7)) 0 g s i - σ.2 5 1 <;> by_cases y2 : vK σ (cn σ 7) (sp g s i) ≤ edgeO σ (vK σ (cn σ 7)) 1 g s i + σ.2 5 1 <;> simp (disch := omega) only [f_X12_odd_b22, f_X12_odd_b22_body, f_X12_odd_b98, f_X12_odd_b102, f_X12_odd_b103, f_X12_odd_b116, obs, b10, b01, bm, if_true_, if_false_, eq_self, not_true_eq_false, not_false_eq_true, true_or, or_true, or_false, false_or, and_true, true_and, and_false, false_and, or_self, and_self, Bool.false_eq_true, ite_self, n25, n20, n24, n100, lt12, nI_leI, hn, rg5 H, e5, T0, r_edge H W.1 (TB0 W), q1, q2, oddO, y1, y2, decide_true, decide_false, Bool.not_true, Bool.not_false, Bool.and_true, Bool.and_false, Bool.true_and, Bool.false_and, Bool.or_true, Bool.or_false, Bool.true_or, Bool.false_or, Int32.add_zero, nI_1]
def farO (σ : SG) (f : Nat) (s : Int32) : Int32 := match gaugeOf σ f s with
  | none => -1
  | some g => farD σ f g
theorem c_distG (C : CS h σ tr u) (W : WV σ) {f : Nat} {s : Int32} (hf : f < cn σ 26) (hN : 100 < N) : f_X11_distanceToGauge h N 1 (300 + f) s = some (farO σ f s) := by
  have hG := W.1.g
  unfold f_X11_distanceToGauge farO
  rw [if_pos (kk1 C), c_gaugeOf C W hf hN, obs]
  rcases e : gaugeOf σ f s with _ | g
  · rfl
  · have hg := gaugeOf_lt e
    rw [oI_s, if_neg (nI_neg (by omega)), kr1_0 C, obs, kg10 C W.1 hg, obs, kc200 C hg, obs, kf300_1 C hf, obs, kf300_2 C hf, obs, kf200_0 C hg, obs, kf200_1 C hg, obs, c_distance, obs]
    rfl
theorem pub_of {a b c : Int32} (I : INV L xs h σ tr u n) (hN : 2000 < N) : ∃ v h1, f_X11_of h N 1 a b c = some (v, h1) ∧ f_X12_of h1 N 100 a b c = some v ∧ INV L xs h1 σ tr u n := by
  obtain ⟨C, H, W, X, S, U⟩ := id I
  have hG := W.1.g
  have hT := W.1.t
  have hF := W.1.f
  have hTl := W.1.tl
  rcases okC a (n := cn σ 26) (by omega) with oa | ⟨oa, f, hf, rfl⟩
  · exact ⟨-5, h, by simp only [f_X11_of, obs, b10, b01, bm, if_true_, if_false_, eq_self, not_true_eq_false, not_false_eq_true, true_or, or_true, or_false, false_or, and_true, true_and, and_false, false_and, or_self, and_self, Bool.false_eq_true, ite_self, n25, n20, n24, n100, kk1 C, RS.kk H, c_isGauge C W.1, c_isTerm C W.1, c_isFarm C W.1, c_isSeason, c_isPlace, r_isGauge H W.1, r_isTerm H W.1, r_isFarm H W.1, r_isSeason, r_isWeek, r_isPlace, r_isSheet, ci1, ri1, ci2, ri2, ci3, ri3, ci4, ri4, ci5, ri5, ci11, ri11, ci16, ri16, ci98, ri98, ci99, ri99, ci198, ri198, ci9999, ri9999, oa], by simp only [f_X12_of, obs, b10, b01, bm, if_true_, if_false_, eq_self, not_true_eq_false, not_false_eq_true, true_or, or_true, or_false, false_or, and_true, true_and, and_false, false_and, or_self, and_self, Bool.false_eq_true, ite_self, n25, n20, n24, n100, kk1 C, RS.kk H, c_isGauge C W.1, c_isTerm C W.1, c_isFarm C W.1, c_isSeason, c_isPlace, r_isGauge H W.1, r_isTerm H W.1, r_isFarm H W.1, r_isSeason, r_isWeek, r_isPlace, r_isSheet, ci1, ri1, ci2, ri2, ci3, ri3, ci4, ri4, ci5, ri5, ci11, ri11, ci16, ri16, ci98, ri98, ci99, ri99, ci198, ri198, ci9999, ri9999, oa], I⟩
  rcases okC b (n := 16) (by decide) with ob | ⟨ob, s, hs, rfl⟩
  · exact ⟨-5, h, by simp only [f_X11_of, obs, b10, b01, bm, if_true_, if_false_, eq_self, not_true_eq_false, not_false_eq_true, true_or, or_true, or_false, false_or, and_true, true_and, and_false, false_and, or_self, and_self, Bool.false_eq_true, ite_self, n25, n20, n24, n100, kk1 C, RS.kk H, c_isGauge C W.1, c_isTerm C W.1, c_isFarm C W.1, c_isSeason, c_isPlace, r_isGauge H W.1, r_isTerm H W.1, r_isFarm H W.1, r_isSeason, r_isWeek, r_isPlace, r_isSheet, ci1, ri1, ci2, ri2, ci3, ri3, ci4, ri4, ci5, ri5, ci11, ri11, ci16, ri16, ci98, ri98, ci99, ri99, ci198, ri198, ci9999, ri9999, oa, ob], by simp only [f_X12_of, obs, b10, b01, bm, if_true_, if_false_, eq_self, not_true_eq_false, not_false_eq_true, true_or, or_true, or_false, false_or, and_true, true_and, and_false, false_and, or_self, and_self, Bool.false_eq_true, ite_self, n25, n20, n24, n100, kk1 C, RS.kk H, c_isGauge C W.1, c_isTerm C W.1, c_isFarm C W.1, c_isSeason, c_isPlace, r_isGauge H W.1, r_isTerm H W.1, r_isFarm H W.1, r_isSeason, r_isWeek, r_isPlace, r_isSheet, ci1, ri1, ci2, ri2, ci3, ri3, ci4, ri4, ci5, ri5, ci11, ri11, ci16, ri16, ci98, ri98, ci99, ri99, ci198, ri198, ci9999, ri9999, oa, ob], I⟩
  have hC := W.1.c
  have zz : ∀ k : Nat, k < 6 → ∀ j : Nat, j < 6 → (nI k = nI j ↔ k = j) := fun k hk j hj => nI_eq (by omega) (by omega)
  have hg0 := c_gaugeOf (N := N) C W (s := nI s) hf (by omega)
  have hg1 := r_gaugeOf (N := N) H W.1 (f := f) (s := nI s) (by omega) (by omega)
  have ht0 := c_termOf (N := N) C W (f := f) (s := nI s) (by omega)
  have ht1 := r_termOf (N := N) H W (f := f) (s := nI s) (by omega)
  by_cases c0 : c = 0
  · refine ⟨oI (gaugeOf σ f (nI s)), h, ?_, ?_, I⟩
    · simp (disch := omega) only [f_X11_of, obs, b10, b01, bm, if_true_, if_false_, eq_self, not_true_eq_false, not_false_eq_true, true_or, or_true, or_false, false_or, and_true, true_and, and_false, false_and, or_self, and_self, Bool.false_eq_true, ite_self, n25, n20, n24, n100, kk1 C, RS.kk H, c_isGauge C W.1, c_isTerm C W.1, c_isFarm C W.1, c_isSeason, c_isPlace, r_isGauge H W.1, r_isTerm H W.1, r_isFarm H W.1, r_isSeason, r_isWeek, r_isPlace, r_isSheet, ci1, ri1, ci2, ri2, ci3, ri3, ci4, ri4, ci5, ri5, ci11, ri11, ci16, ri16, ci98, ri98, ci99, ri99, ci198, ri198, ci9999, ri9999, oa, ob, kr1_2 C, kg12 C W.1, kc300 C, c0, hg0]
    · simp (disch := omega) only [f_X12_of, obs, b10, b01, bm, if_true_, if_false_, eq_self, not_true_eq_false, not_false_eq_true, true_or, or_true, or_false, false_or, and_true, true_and, and_false, false_and, or_self, and_self, Bool.false_eq_true, ite_self, n25, n20, n24, n100, kk1 C, RS.kk H, c_isGauge C W.1, c_isTerm C W.1, c_isFarm C W.1, c_isSeason, c_isPlace, r_isGauge H W.1, r_isTerm H W.1, r_isFarm H W.1, r_isSeason, r_isWeek, r_isPlace, r_isSheet, ci1, ri1, ci2, ri2, ci3, ri3, ci4, ri4, ci5, ri5, ci11, ri11, ci16, ri16, ci98, ri98, ci99, ri99, ci198, ri198, ci9999, ri9999, oa, ob, hg1, ht1, c0]
  by_cases c1 : c = 1
  · refine ⟨oI (termO σ f (nI s)), h, ?_, ?_, I⟩
    · simp (disch := omega) only [f_X11_of, obs, b10, b01, bm, if_true_, if_false_, eq_self, not_true_eq_false, not_false_eq_true, true_or, or_true, or_false, false_or, and_true, true_and, and_false, false_and, or_self, and_self, Bool.false_eq_true, ite_self, n25, n20, n24, n100, kk1 C, RS.kk H, c_isGauge C W.1, c_isTerm C W.1, c_isFarm C W.1, c_isSeason, c_isPlace, r_isGauge H W.1, r_isTerm H W.1, r_isFarm H W.1, r_isSeason, r_isWeek, r_isPlace, r_isSheet, ci1, ri1, ci2, ri2, ci3, ri3, ci4, ri4, ci5, ri5, ci11, ri11, ci16, ri16, ci98, ri98, ci99, ri99, ci198, ri198, ci9999, ri9999, oa, ob, kr1_2 C, kg12 C W.1, kc300 C, c1, ht0]
    · simp (disch := omega) only [f_X12_of, obs, b10, b01, bm, if_true_, if_false_, eq_self, not_true_eq_false, not_false_eq_true, true_or, or_true, or_false, false_or, and_true, true_and, and_false, false_and, or_self, and_self, Bool.false_eq_true, ite_self, n25, n20, n24, n100, kk1 C, RS.kk H, c_isGauge C W.1, c_isTerm C W.1, c_isFarm C W.1, c_isSeason, c_isPlace, r_isGauge H W.1, r_isTerm H W.1, r_isFarm H W.1, r_isSeason, r_isWeek, r_isPlace, r_isSheet, ci1, ri1, ci2, ri2, ci3, ri3, ci4, ri4, ci5, ri5, ci11, ri11, ci16, ri16, ci98, ri98, ci99, ri99, ci198, ri198, ci9999, ri9999, oa, ob, hg1, ht1, c1]
  by_cases c2 : c = 2
  · have z20 : ((2 : Int32) = 0) = False := by decide
    have z21 : ((2 : Int32) = 1) = False := by decide
    refine ⟨farO σ f (nI s), h, ?_, ?_, I⟩
    · simp (disch := omega) only [f_X11_of, obs, b10, b01, bm, if_true_, if_false_, eq_self, not_true_eq_false, not_false_eq_true, true_or, or_true, or_false, false_or, and_true, true_and, and_false, false_and, or_self, and_self, Bool.false_eq_true, ite_self, n25, n20, n24, n100, kk1 C, RS.kk H, c_isGauge C W.1, c_isTerm C W.1, c_isFarm C W.1, c_isSeason, c_isPlace, r_isGauge H W.1, r_isTerm H W.1, r_isFarm H W.1, r_isSeason, r_isWeek, r_isPlace, r_isSheet, ci1, ri1, ci2, ri2, ci3, ri3, ci4, ri4, ci5, ri5, ci11, ri11, ci16, ri16, ci98, ri98, ci99, ri99, ci198, ri198, ci9999, ri9999, oa, ob, kr1_2 C, kg12 C W.1, kc300 C, c2, z20, z21, c_distG C W]
    · rcases e : gaugeOf σ f (nI s) with _ | g
      · rw [e] at hg1
        simp (disch := omega) only [f_X12_of, obs, b10, b01, bm, if_true_, if_false_, eq_self, not_true_eq_false, not_false_eq_true, true_or, or_true, or_false, false_or, and_true, true_and, and_false, false_and, or_self, and_self, Bool.false_eq_true, ite_self, n25, n20, n24, n100, kk1 C, RS.kk H, c_isGauge C W.1, c_isTerm C W.1, c_isFarm C W.1, c_isSeason, c_isPlace, r_isGauge H W.1, r_isTerm H W.1, r_isFarm H W.1, r_isSeason, r_isWeek, r_isPlace, r_isSheet, ci1, ri1, ci2, ri2, ci3, ri3, ci4, ri4, ci5, ri5, ci11, ri11, ci16, ri16, ci98, ri98, ci99, ri99, ci198, ri198, ci9999, ri9999, oa, ob, hg1, ht1, c2, z20, z21, farO, e, oI_n]
      · have hg := gaugeOf_lt e
        rw [e] at hg1
        simp (disch := omega) only [f_X12_of, obs, b10, b01, bm, if_true_, if_false_, eq_self, not_true_eq_false, not_false_eq_true, true_or, or_true, or_false, false_or, and_true, true_and, and_false, false_and, or_self, and_self, Bool.false_eq_true, ite_self, n25, n20, n24, n100, kk1 C, RS.kk H, c_isGauge C W.1, c_isTerm C W.1, c_isFarm C W.1, c_isSeason, c_isPlace, r_isGauge H W.1, r_isTerm H W.1, r_isFarm H W.1, r_isSeason, r_isWeek, r_isPlace, r_isSheet, ci1, ri1, ci2, ri2, ci3, ri3, ci4, ri4, ci5, ri5, ci11, ri11, ci16, ri16, ci98, ri98, ci99, ri99, ci198, ri198, ci9999, ri9999, oa, ob, hg1, ht1, c2, z20, z21, farO, e, oI_s, nI_negF, rg1 H, ra1 H, rg2 H, ra2 H, r_farFrom H, farD]
  by_cases c3 : c = 3
  · have z0 : ((3 : Int32) = 0) = False := by decide
    have z1 : ((3 : Int32) = 1) = False := by decide
    have z2 : ((3 : Int32) = 2) = False := by decide
    rcases e : termO σ f (nI s) with _ | t
    · have e' := termO_n.mp e
      rw [e] at ht1
      have hc0 := c_coverOf (N := N) C W.1 (f := f) (s := nI s) (by omega)
      rw [e'] at hc0
      refine ⟨-1, h, ?_, ?_, I⟩
      · simp (disch := omega) only [f_X11_of, obs, b10, b01, bm, if_true_, if_false_, eq_self, not_true_eq_false, not_false_eq_true, true_or, or_true, or_false, false_or, and_true, true_and, and_false, false_and, or_self, and_self, Bool.false_eq_true, ite_self, n25, n20, n24, n100, kk1 C, RS.kk H, c_isGauge C W.1, c_isTerm C W.1, c_isFarm C W.1, c_isSeason, c_isPlace, r_isGauge H W.1, r_isTerm H W.1, r_isFarm H W.1, r_isSeason, r_isWeek, r_isPlace, r_isSheet, ci1, ri1, ci2, ri2, ci3, ri3, ci4, ri4, ci5, ri5, ci11, ri11, ci16, ri16, ci98, ri98, ci99, ri99, ci198, ri198, ci9999, ri9999, oa, ob, kr1_2 C, kg12 C W.1, kc300 C, c3, z0, z1, z2, hc0, oI_n]
      · simp (disch := omega) only [f_X12_of, obs, b10, b01, bm, if_true_, if_false_, eq_self, not_true_eq_false, not_false_eq_true, true_or, or_true, or_false, false_or, and_true, true_and, and_false, false_and, or_self, and_self, Bool.false_eq_true, ite_self, n25, n20, n24, n100, kk1 C, RS.kk H, c_isGauge C W.1, c_isTerm C W.1, c_isFarm C W.1, c_isSeason, c_isPlace, r_isGauge H W.1, r_isTerm H W.1, r_isFarm H W.1, r_isSeason, r_isWeek, r_isPlace, r_isSheet, ci1, ri1, ci2, ri2, ci3, ri3, ci4, ri4, ci5, ri5, ci11, ri11, ci16, ri16, ci98, ri98, ci99, ri99, ci198, ri198, ci9999, ri9999, oa, ob, hg1, ht1, c3, z0, z1, z2, oI_n]
    · have ht := termO_lt W e
      rw [e] at ht0 ht1
      rcases e' : coverO σ f (nI s) with _ | cc
      · rw [termO_n.mpr e'] at e; cases e
      · have hcc := coverO_lt e'
        have hc0 := c_coverOf (N := N) C W.1 (f := f) (s := nI s) (by omega)
        rw [e'] at hc0
        obtain ⟨h1, p1, p2, -⟩ := c_payOf (N := N) C W hf hs ht (show cn σ 7 < 2 ^ 31 by omega) (by omega)
        have I' := I.scr p2
        have H' := I'.2.1
        have hg1' := r_gaugeOf (N := N) H' W.1 (f := f) (s := nI s) (by omega) (by omega)
        have ht1' := r_termOf (N := N) H' W (f := f) (s := nI s) (by omega)
        have hp1 : f_X12_farmPay h1 N 100 0 (nI f) (nI s) (nI t) = _ := r_farmPay H' W (TB0 W) hf hs ht (by omega)
        rw [e] at ht1'
        refine ⟨farmPayO σ (vK σ (cn σ 7)) (GK σ (cn σ 7)) f s t, h1, ?_, ?_, I'⟩
        · simp (disch := omega) only [f_X11_of, obs, b10, b01, bm, if_true_, if_false_, eq_self, not_true_eq_false, not_false_eq_true, true_or, or_true, or_false, false_or, and_true, true_and, and_false, false_and, or_self, and_self, Bool.false_eq_true, ite_self, n25, n20, n24, n100, kk1 C, RS.kk H, c_isGauge C W.1, c_isTerm C W.1, c_isFarm C W.1, c_isSeason, c_isPlace, r_isGauge H W.1, r_isTerm H W.1, r_isFarm H W.1, r_isSeason, r_isWeek, r_isPlace, r_isSheet, ci1, ri1, ci2, ri2, ci3, ri3, ci4, ri4, ci5, ri5, ci11, ri11, ci16, ri16, ci98, ri98, ci99, ri99, ci198, ri198, ci9999, ri9999, oa, ob, kr1_2 C, kg12 C W.1, kc300 C, c3, z0, z1, z2, hc0, oI_s, nI_negF, ht0, c_now C W.1, p1]
        · simp (disch := omega) only [f_X12_of, obs, b10, b01, bm, if_true_, if_false_, eq_self, not_true_eq_false, not_false_eq_true, true_or, or_true, or_false, false_or, and_true, true_and, and_false, false_and, or_self, and_self, Bool.false_eq_true, ite_self, n25, n20, n24, n100, r_isSeason, RS.kk H', r_isFarm H' W.1, oa, ob, hg1', ht1', c3, z0, z1, z2, oI_s, nI_negF, hp1]
  by_cases c4 : c = 4
  · have z0 : ((4 : Int32) = 0) = False := by decide
    have z1 : ((4 : Int32) = 1) = False := by decide
    have z2 : ((4 : Int32) = 2) = False := by decide
    have z3 : ((4 : Int32) = 3) = False := by decide
    refine ⟨nI ((σ.2 27 f).toNatClampNeg / 25), h, ?_, ?_, I⟩
    · simp (disch := omega) only [f_X11_of, obs, b10, b01, bm, if_true_, if_false_, eq_self, not_true_eq_false, not_false_eq_true, true_or, or_true, or_false, false_or, and_true, true_and, and_false, false_and, or_self, and_self, Bool.false_eq_true, ite_self, n25, n20, n24, n100, kk1 C, RS.kk H, c_isGauge C W.1, c_isTerm C W.1, c_isFarm C W.1, c_isSeason, c_isPlace, r_isGauge H W.1, r_isTerm H W.1, r_isFarm H W.1, r_isSeason, r_isWeek, r_isPlace, r_isSheet, ci1, ri1, ci2, ri2, ci3, ri3, ci4, ri4, ci5, ri5, ci11, ri11, ci16, ri16, ci98, ri98, ci99, ri99, ci198, ri198, ci9999, ri9999, oa, ob, kr1_2 C, kg12 C W.1, kc300 C, c4, z0, z1, z2, z3, c_district C W]
    · simp (disch := omega) only [f_X12_of, obs, b10, b01, bm, if_true_, if_false_, eq_self, not_true_eq_false, not_false_eq_true, true_or, or_true, or_false, false_or, and_true, true_and, and_false, false_and, or_self, and_self, Bool.false_eq_true, ite_self, n25, n20, n24, n100, kk1 C, RS.kk H, c_isGauge C W.1, c_isTerm C W.1, c_isFarm C W.1, c_isSeason, c_isPlace, r_isGauge H W.1, r_isTerm H W.1, r_isFarm H W.1, r_isSeason, r_isWeek, r_isPlace, r_isSheet, ci1, ri1, ci2, ri2, ci3, ri3, ci4, ri4, ci5, ri5, ci11, ri11, ci16, ri16, ci98, ri98, ci99, ri99, ci198, ri198, ci9999, ri9999, oa, ob, hg1, ht1, c4, z0, z1, z2, z3, rg27 H, ra27 H, (dist_lt W hf).2]
  by_cases c5 : c = 5
  · have z0 : ((5 : Int32) = 0) = False := by decide
    have z1 : ((5 : Int32) = 1) = False := by decide
    have z2 : ((5 : Int32) = 2) = False := by decide
    have z3 : ((5 : Int32) = 3) = False := by decide
    have z4 : ((5 : Int32) = 4) = False := by decide
    have e16 : (16 : Int32) * nI f + nI s = nI (16 * f + s) := by rw [lt16, nI_mul, nI_add]
    refine ⟨σ.2 34 (16 * f + s), h, ?_, ?_, I⟩
    · simp (disch := omega) only [f_X11_of, obs, b10, b01, bm, if_true_, if_false_, eq_self, not_true_eq_false, not_false_eq_true, true_or, or_true, or_false, false_or, and_true, true_and, and_false, false_and, or_self, and_self, Bool.false_eq_true, ite_self, n25, n20, n24, n100, kk1 C, RS.kk H, c_isGauge C W.1, c_isTerm C W.1, c_isFarm C W.1, c_isSeason, c_isPlace, r_isGauge H W.1, r_isTerm H W.1, r_isFarm H W.1, r_isSeason, r_isWeek, r_isPlace, r_isSheet, ci1, ri1, ci2, ri2, ci3, ri3, ci4, ri4, ci5, ri5, ci11, ri11, ci16, ri16, ci98, ri98, ci99, ri99, ci198, ri198, ci9999, ri9999, oa, ob, kr1_2 C, kg12 C W.1, kc300 C, c5, z0, z1, z2, z3, z4, kq300_5 C, kst C]
    · simp (disch := omega) only [f_X12_of, obs, b10, b01, bm, if_true_, if_false_, eq_self, not_true_eq_false, not_false_eq_true, true_or, or_true, or_false, false_or, and_true, true_and, and_false, false_and, or_self, and_self, Bool.false_eq_true, ite_self, n25, n20, n24, n100, kk1 C, RS.kk H, c_isGauge C W.1, c_isTerm C W.1, c_isFarm C W.1, c_isSeason, c_isPlace, r_isGauge H W.1, r_isTerm H W.1, r_isFarm H W.1, r_isSeason, r_isWeek, r_isPlace, r_isSheet, ci1, ri1, ci2, ri2, ci3, ri3, ci4, ri4, ci5, ri5, ci11, ri11, ci16, ri16, ci98, ri98, ci99, ri99, ci198, ri198, ci9999, ri9999, oa, ob, hg1, ht1, c5, z0, z1, z2, z3, z4, rg34 H, e16, ra34 H]
  refine ⟨-5, h, ?_, ?_, I⟩
  · simp (disch := omega) only [f_X11_of, obs, b10, b01, bm, if_true_, if_false_, eq_self, not_true_eq_false, not_false_eq_true, true_or, or_true, or_false, false_or, and_true, true_and, and_false, false_and, or_self, and_self, Bool.false_eq_true, ite_self, n25, n20, n24, n100, kk1 C, RS.kk H, c_isGauge C W.1, c_isTerm C W.1, c_isFarm C W.1, c_isSeason, c_isPlace, r_isGauge H W.1, r_isTerm H W.1, r_isFarm H W.1, r_isSeason, r_isWeek, r_isPlace, r_isSheet, ci1, ri1, ci2, ri2, ci3, ri3, ci4, ri4, ci5, ri5, ci11, ri11, ci16, ri16, ci98, ri98, ci99, ri99, ci198, ri198, ci9999, ri9999, oa, ob, kr1_2 C, kg12 C W.1, kc300 C, c0, c1, c2, c3, c4, c5]
  · simp (disch := omega) only [f_X12_of, obs, b10, b01, bm, if_true_, if_false_, eq_self, not_true_eq_false, not_false_eq_true, true_or, or_true, or_false, false_or, and_true, true_and, and_false, false_and, or_self, and_self, Bool.false_eq_true, ite_self, n25, n20, n24, n100, kk1 C, RS.kk H, c_isGauge C W.1, c_isTerm C W.1, c_isFarm C W.1, c_isSeason, c_isPlace, r_isGauge H W.1, r_isTerm H W.1, r_isFarm H W.1, r_isSeason, r_isWeek, r_isPlace, r_isSheet, ci1, ri1, ci2, ri2, ci3, ri3, ci4, ri4, ci5, ri5, ci11, ri11, ci16, ri16, ci98, ri98, ci99, ri99, ci198, ri198, ci9999, ri9999, oa, ob, hg1, ht1, c0, c1, c2, c3, c4, c5]
end
