/-! ===== public: lay ===== -/
section
variable {L N : Nat} {xs : Nat → Int32} {h h' : AH} {σ σ' : SG} {tr : Nat → Nat} {u n : Nat}
theorem c_isSort {h : AH} {v : Int32} : f_X6_isSort h v = some (if ok v 3 then 1 else 0) := by
  unfold f_X6_isSort
  rw [ci2, obs, if_pos (by rw [zi2]; trivial)]
theorem c_hasItems (C : CS h σ tr u) {j : Nat} {p q : Int32} (hj : j < 3) : f_X6_hasItems h (23 + j) p q = some (if p < 0 ∨ q < 0 ∨ σ.2 67 j - q < p then 0 else 1) := by
  by_cases q1 : p < 0 <;> by_cases q2 : q < 0 <;> by_cases q3 : σ.2 67 j - q < p <;> simp (disch := omega) only [f_X6_hasItems, obs, b10, b01, bm, if_true_, if_false_, eq_self, not_true_eq_false, not_false_eq_true, true_or, or_true, or_false, false_or, and_true, true_and, and_false, false_and, or_self, and_self, Bool.false_eq_true, ite_self, n25, n20, n24, n100, kd23 C, kf23_1 C, q1, q2, q3]
def layV (x : Int32) : Int32 := if ok x 10000 then x else -1
theorem layV_bd {x : Int32} : bd (layV x + 1) 10001 := by
  unfold layV
  rcases okC x (n := 10000) (by decide) with o | ⟨o, k, hk, rfl⟩
  · rw [o, if_neg (by decide)]; exact ⟨0, by omega, by decide⟩
  · rw [o, if_pos rfl, nI_1]; exact ⟨k + 1, by omega, rfl⟩
def layT (g s b w : Nat) (y : Int32 × SG) : Int32 × SG := (nI (cn y.2 7 + 1), telS y.2 false (sp g s w) (layV (y.2.2 68 (b + w))))
theorem r_layL {j i g s : Nat} {h1 : AH} (H1 : RS h1 σ) (W : WV σ) (hT : cn σ 7 + 12 ≤ 700) (hj : j < 3) (hi : i + 12 ≤ 40) (hg : g < 8) (hs : s < 16) (hN : 100 < N) : ∃ h2, f_X12_lay_b115 N N h1 100 (nI g) (nI s) (nI j) (nI i) 0 = some ((itr (layT g s (40 * j + i)) 0 12 (0, σ)).2.1 7, h2) ∧ RS h2 (itr (layT g s (40 * j + i)) 0 12 (0, σ)).2 ∧ FRc h1 h2 := by
  refine (lpS (σ := AH) (α := Int32 × SG) (fun n w h _ => f_X12_lay_b115 N n h 100 (nI g) (nI s) (nI j) (nI i) (nI w)) (layT g s (40 * j + i)) 12 (fun h' y => some (y.2.1 7, h')) (fun w h' y => RS h' y.2 ∧ FRc h1 h' ∧ WV y.2 ∧ cn y.2 7 = cn σ 7 + w) ?_ ?_ 12 N 0 h1 (0, σ) (by omega) (by omega) ⟨H1, FRc.refl, W, rfl⟩).elim (fun h' e => ⟨h', e.1, e.2.1, e.2.2.1⟩)
  · intro n h' y ⟨H', _⟩
    simp (disch := omega) only [f_X12_lay_b115, f_X12_lay_b115_body, obs, b10, b01, bm, if_true_, if_false_, eq_self, not_true_eq_false, not_false_eq_true, true_or, or_true, or_false, false_or, and_true, true_and, and_false, false_and, or_self, and_self, Bool.false_eq_true, ite_self, n25, n20, n24, n100, lt12, nI_leI, Nat.le_refl, RS.gi H']
  · intro n w h' y hw ⟨H', F', W', hc⟩
    have hn : ¬ 12 ≤ w := by omega
    have hsp : sp g s w < 1536 := by have := sp_lt (n := 8) hg hs hw; omega
    have hsp' : sp g s w < if false = true then 768 else 1536 := by simpa using hsp
    obtain ⟨h2, t2, F2, H2⟩ := r_tells (g := false) (v := layV (y.2.2 68 (40 * j + i + w))) H' W'.1 (by omega) hsp'
    have t2' : f_X12_tells h' 100 0 (nI (sp g s w)) (layV (y.2.2 68 (40 * j + i + w))) = some h2 := t2
    refine ⟨h2, ?_, H2, F'.trans F2, tel_wv W' (by omega) hsp' layV_bd, ?_⟩
    · have e40 : (40 : Int32) * nI j + nI i + nI w = nI (40 * j + i + w) := by rw [lt40, nI_mul, nI_add, nI_add]
      have v68 := ra68 H' (n := 40 * j + i + w) (by omega)
      unfold layV at t2'
      rcases o : ok (y.2.2 68 (40 * j + i + w)) 10000
      · rw [o] at t2'
        simp (disch := omega) only [f_X12_lay_b115, f_X12_lay_b115_body, f_X12_lay_b166, obs, b10, b01, bm, if_true_, if_false_, eq_self, not_true_eq_false, not_false_eq_true, true_or, or_true, or_false, false_or, and_true, true_and, and_false, false_and, or_self, and_self, Bool.false_eq_true, ite_self, n25, n20, n24, n100, lt12, nI_leI, hn, rg68 H', e40, v68, r_spotOf, ri9999, o, nI_1]
        simp only [Bool.false_eq_true, if_false_] at t2'
        rw [t2', obs]
      · rw [o] at t2'
        simp (disch := omega) only [f_X12_lay_b115, f_X12_lay_b115_body, f_X12_lay_b166, obs, b10, b01, bm, if_true_, if_false_, eq_self, not_true_eq_false, not_false_eq_true, true_or, or_true, or_false, false_or, and_true, true_and, and_false, false_and, or_self, and_self, Bool.false_eq_true, ite_self, n25, n20, n24, n100, lt12, nI_leI, hn, rg68 H', e40, v68, r_spotOf, ri9999, o, nI_1]
        simp only [eq_self, if_true_] at t2'
        rw [t2', obs]
    · show cn (telS y.2 false (sp g s w) (layV (y.2.2 68 (40 * j + i + w)))) 7 = cn σ 7 + (w + 1)
      rw [telS_c W'.1]; omega
theorem c_layL {j i g s : Nat} (I : INV L xs h σ tr u n) (hT : cn σ 7 + 12 ≤ 700) (hj : j < 3) (hi : i + 12 ≤ 40) (hg : g < 8) (hs : s < 16) (hN : 100 < N) : ∃ h1, f_X11_lay_b112 N N h 1 (nI g) (nI s) (nI i) (23 + j) 0 0 = some ((itr (layT g s (40 * j + i)) 0 12 (0, σ)).2.1 7, h1) ∧ (CS h1 (itr (layT g s (40 * j + i)) 0 12 (0, σ)).2 tr u ∧ RS h1 σ ∧ WV (itr (layT g s (40 * j + i)) 0 12 (0, σ)).2 ∧ WX (itr (layT g s (40 * j + i)) 0 12 (0, σ)).2 n ∧ (kd h1 9000 = 30 ∧ ln h1 9000 = L ∧ ai h1 9000 = xs)) := by
  obtain ⟨C, H, W, X, S, U⟩ := id I
  refine (lpS (σ := AH) (α := Int32 × SG) (fun n w h y => f_X11_lay_b112 N n h 1 (nI g) (nI s) (nI i) (23 + j) y.1 (nI w)) (layT g s (40 * j + i)) 12 (fun h' y => some (y.1, h')) (fun w h' y => CS h' y.2 tr u ∧ RS h' σ ∧ WV y.2 ∧ WX y.2 n ∧ (kd h' 9000 = 30 ∧ ln h' 9000 = L ∧ ai h' 9000 = xs) ∧ cn y.2 7 = cn σ 7 + w ∧ (w = 0 ∨ y.1 = nI (cn y.2 7))) ?_ ?_ 12 N 0 h (0, σ) (by omega) (by omega) ⟨C, H, W, X, S, rfl, Or.inl rfl⟩).elim (fun h1 e => ?_)
  · intro n h' y _
    simp (disch := omega) only [f_X11_lay_b112, f_X11_lay_b112_body, obs, b10, b01, bm, if_true_, if_false_, eq_self, not_true_eq_false, not_false_eq_true, true_or, or_true, or_false, false_or, and_true, true_and, and_false, false_and, or_self, and_self, Bool.false_eq_true, ite_self, n25, n20, n24, n100, lt12, nI_leI, Nat.le_refl]
  · intro n w h' y hw ⟨C', H', W', X', S', hc, _⟩
    have hn : ¬ 12 ≤ w := by omega
    have hsp : sp g s w < 1536 := by have := sp_lt (n := 8) hg hs hw; omega
    have hsp' : sp g s w < if false = true then 768 else 1536 := by simpa using hsp
    have t1 := c_tell C' W'.1 (r := g) (s := s) (w := w) (v := layV (y.2.2 68 (40 * j + i + w))) (by omega) hs hw (by omega)
    have ct0 : telC false (sp g s w) = sp g s w := by simp [telC]
    have C2 := tel_cs (v := layV (y.2.2 68 (40 * j + i + w))) C' W' (by omega) hsp'
    rw [ct0] at C2
    refine ⟨telH h' y.2 (sp g s w) (layV (y.2.2 68 (40 * j + i + w))), ?_, C2, tel_rs H', tel_wv W' (by omega) hsp' layV_bd, tel_wx X', tel_9 S', ?_, Or.inr ?_⟩
    · have ew : nI i + nI w = nI (i + w) := nI_add i w
      have v68 := kx38 C' (j := j) (i := i + w) hj (by omega)
      rw [show 40 * j + (i + w) = 40 * j + i + w by omega] at v68
      unfold layV at t1 ⊢
      rcases o : ok (y.2.2 68 (40 * j + i + w)) 10000
      · rw [o] at t1
        simp only [Bool.false_eq_true, if_false_] at t1
        simp (disch := omega) only [f_X11_lay_b112, f_X11_lay_b112_body, f_X11_lay_b158, obs, b10, b01, bm, if_true_, if_false_, eq_self, not_true_eq_false, not_false_eq_true, true_or, or_true, or_false, false_or, and_true, true_and, and_false, false_and, or_self, and_self, Bool.false_eq_true, ite_self, n25, n20, n24, n100, lt12, nI_leI, hn, kq23_2 C', ew, v68, kr1_4 C', ci9999, o, t1, layT, layV, nI_1]
      · rw [o] at t1
        simp only [eq_self, if_true_] at t1
        simp (disch := omega) only [f_X11_lay_b112, f_X11_lay_b112_body, f_X11_lay_b158, obs, b10, b01, bm, if_true_, if_false_, eq_self, not_true_eq_false, not_false_eq_true, true_or, or_true, or_false, false_or, and_true, true_and, and_false, false_and, or_self, and_self, Bool.false_eq_true, ite_self, n25, n20, n24, n100, lt12, nI_leI, hn, kq23_2 C', ew, v68, kr1_4 C', ci9999, o, t1, layT, layV, nI_1]
    · show cn (telS y.2 false (sp g s w) (layV (y.2.2 68 (40 * j + i + w)))) 7 = cn σ 7 + (w + 1)
      rw [telS_c W'.1]; omega
    · show nI (cn y.2 7 + 1) = nI (cn (telS y.2 false (sp g s w) (layV (y.2.2 68 (40 * j + i + w)))) 7)
      rw [telS_c W'.1]
  · obtain ⟨e1, C1, H1, W1, X1, S1, c1, d1⟩ := e
    refine ⟨h1, ?_, C1, H1, W1, X1, S1⟩
    have e1' : f_X11_lay_b112 N N h 1 (nI g) (nI s) (nI i) (23 + j) 0 0 = _ := e1
    rw [e1']
    rcases d1 with d1 | d1
    · omega
    · rw [d1, W1.1.tl.1]
theorem pub_lay {a b c d e : Int32} (I : INV L xs h σ tr u n) (hN : 2000 < N) : ∃ v h1 h2 σ' tr' u', f_X11_lay h N 1 a b c d e = some (v, h1) ∧ f_X12_lay h1 N 100 a b c d e = some (v, h2) ∧ (kd h1 9000 = 30 ∧ ln h1 9000 = L ∧ ai h1 9000 = xs) ∧ INV L xs h2 σ' tr' u' (n + 1) := by
  obtain ⟨C, H, W, X, S, U⟩ := id I
  have hG := W.1.g
  have hTl := W.1.tl
  rcases okC a (n := cn σ 0) (by omega) with oa | ⟨oa, g, hg, rfl⟩
  · exact ⟨-1, h, h, σ, tr, u, by simp only [f_X11_lay, obs, b10, b01, bm, if_true_, if_false_, eq_self, not_true_eq_false, not_false_eq_true, true_or, or_true, or_false, false_or, and_true, true_and, and_false, false_and, or_self, and_self, Bool.false_eq_true, ite_self, n25, n20, n24, n100, kk1 C, RS.kk H, c_isGauge C W.1, c_isTerm C W.1, c_isFarm C W.1, c_isSeason, c_isPlace, r_isGauge H W.1, r_isTerm H W.1, r_isFarm H W.1, r_isSeason, r_isWeek, r_isPlace, r_isSheet, ci1, ri1, ci2, ri2, ci3, ri3, ci4, ri4, ci5, ri5, ci11, ri11, ci16, ri16, ci98, ri98, ci99, ri99, ci198, ri198, ci9999, ri9999, oa], by simp only [f_X12_lay, obs, b10, b01, bm, if_true_, if_false_, eq_self, not_true_eq_false, not_false_eq_true, true_or, or_true, or_false, false_or, and_true, true_and, and_false, false_and, or_self, and_self, Bool.false_eq_true, ite_self, n25, n20, n24, n100, kk1 C, RS.kk H, c_isGauge C W.1, c_isTerm C W.1, c_isFarm C W.1, c_isSeason, c_isPlace, r_isGauge H W.1, r_isTerm H W.1, r_isFarm H W.1, r_isSeason, r_isWeek, r_isPlace, r_isSheet, ci1, ri1, ci2, ri2, ci3, ri3, ci4, ri4, ci5, ri5, ci11, ri11, ci16, ri16, ci98, ri98, ci99, ri99, ci198, ri198, ci9999, ri9999, oa], S, I.up (by omega)⟩
  rcases okC b (n := 16) (by decide) with ob | ⟨ob, s, hs, rfl⟩
  · exact ⟨-1, h, h, σ, tr, u, by simp only [f_X11_lay, obs, b10, b01, bm, if_true_, if_false_, eq_self, not_true_eq_false, not_false_eq_true, true_or, or_true, or_false, false_or, and_true, true_and, and_false, false_and, or_self, and_self, Bool.false_eq_true, ite_self, n25, n20, n24, n100, kk1 C, RS.kk H, c_isGauge C W.1, c_isTerm C W.1, c_isFarm C W.1, c_isSeason, c_isPlace, r_isGauge H W.1, r_isTerm H W.1, r_isFarm H W.1, r_isSeason, r_isWeek, r_isPlace, r_isSheet, ci1, ri1, ci2, ri2, ci3, ri3, ci4, ri4, ci5, ri5, ci11, ri11, ci16, ri16, ci98, ri98, ci99, ri99, ci198, ri198, ci9999, ri9999, oa, ob], by simp only [f_X12_lay, obs, b10, b01, bm, if_true_, if_false_, eq_self, not_true_eq_false, not_false_eq_true, true_or, or_true, or_false, false_or, and_true, true_and, and_false, false_and, or_self, and_self, Bool.false_eq_true, ite_self, n25, n20, n24, n100, kk1 C, RS.kk H, c_isGauge C W.1, c_isTerm C W.1, c_isFarm C W.1, c_isSeason, c_isPlace, r_isGauge H W.1, r_isTerm H W.1, r_isFarm H W.1, r_isSeason, r_isWeek, r_isPlace, r_isSheet, ci1, ri1, ci2, ri2, ci3, ri3, ci4, ri4, ci5, ri5, ci11, ri11, ci16, ri16, ci98, ri98, ci99, ri99, ci198, ri198, ci9999, ri9999, oa, ob], S, I.up (by omega)⟩
  rcases okC c (n := 3) (by decide) with oc | ⟨oc, j, hj, rfl⟩
  · exact ⟨-2, h, h, σ, tr, u, by simp only [f_X11_lay, obs, b10, b01, bm, if_true_, if_false_, eq_self, not_true_eq_false, not_false_eq_true, true_or, or_true, or_false, false_or, and_true, true_and, and_false, false_and, or_self, and_self, Bool.false_eq_true, ite_self, n25, n20, n24, n100, kk1 C, RS.kk H, c_isGauge C W.1, c_isTerm C W.1, c_isFarm C W.1, c_isSeason, c_isPlace, r_isGauge H W.1, r_isTerm H W.1, r_isFarm H W.1, r_isSeason, r_isWeek, r_isPlace, r_isSheet, ci1, ri1, ci2, ri2, ci3, ri3, ci4, ri4, ci5, ri5, ci11, ri11, ci16, ri16, ci98, ri98, ci99, ri99, ci198, ri198, ci9999, ri9999, c_isSheet C, oa, ob, oc], by simp only [f_X12_lay, obs, b10, b01, bm, if_true_, if_false_, eq_self, not_true_eq_false, not_false_eq_true, true_or, or_true, or_false, false_or, and_true, true_and, and_false, false_and, or_self, and_self, Bool.false_eq_true, ite_self, n25, n20, n24, n100, kk1 C, RS.kk H, c_isGauge C W.1, c_isTerm C W.1, c_isFarm C W.1, c_isSeason, c_isPlace, r_isGauge H W.1, r_isTerm H W.1, r_isFarm H W.1, r_isSeason, r_isWeek, r_isPlace, r_isSheet, ci1, ri1, ci2, ri2, ci3, ri3, ci4, ri4, ci5, ri5, ci11, ri11, ci16, ri16, ci98, ri98, ci99, ri99, ci198, ri198, ci9999, ri9999, oa, ob, oc], S, I.up (by omega)⟩
  rcases od : ok d 3
  · exact ⟨-2, h, h, σ, tr, u, by simp only [f_X11_lay, obs, b10, b01, bm, if_true_, if_false_, eq_self, not_true_eq_false, not_false_eq_true, true_or, or_true, or_false, false_or, and_true, true_and, and_false, false_and, or_self, and_self, Bool.false_eq_true, ite_self, n25, n20, n24, n100, kk1 C, RS.kk H, c_isGauge C W.1, c_isTerm C W.1, c_isFarm C W.1, c_isSeason, c_isPlace, r_isGauge H W.1, r_isTerm H W.1, r_isFarm H W.1, r_isSeason, r_isWeek, r_isPlace, r_isSheet, ci1, ri1, ci2, ri2, ci3, ri3, ci4, ri4, ci5, ri5, ci11, ri11, ci16, ri16, ci98, ri98, ci99, ri99, ci198, ri198, ci9999, ri9999, c_isSheet C, c_isSort, oa, ob, oc, od], by simp only [f_X12_lay, obs, b10, b01, bm, if_true_, if_false_, eq_self, not_true_eq_false, not_false_eq_true, true_or, or_true, or_false, false_or, and_true, true_and, and_false, false_and, or_self, and_self, Bool.false_eq_true, ite_self, n25, n20, n24, n100, kk1 C, RS.kk H, c_isGauge C W.1, c_isTerm C W.1, c_isFarm C W.1, c_isSeason, c_isPlace, r_isGauge H W.1, r_isTerm H W.1, r_isFarm H W.1, r_isSeason, r_isWeek, r_isPlace, r_isSheet, ci1, ri1, ci2, ri2, ci3, ri3, ci4, ri4, ci5, ri5, ci11, ri11, ci16, ri16, ci98, ri98, ci99, ri99, ci198, ri198, ci9999, ri9999, oa, ob, oc, od], S, I.up (by omega)⟩
  obtain ⟨z, hz, ez⟩ := (X.2.2.2.2.1 j hj).2
  by_cases q0 : σ.2 66 j = -1
  · exact ⟨-11, h, h, σ, tr, u, by simp (disch := omega) only [f_X11_lay, f_X11_lay_b65, obs, b10, b01, bm, if_true_, if_false_, eq_self, not_true_eq_false, not_false_eq_true, true_or, or_true, or_false, false_or, and_true, true_and, and_false, false_and, or_self, and_self, Bool.false_eq_true, ite_self, n25, n20, n24, n100, kk1 C, RS.kk H, c_isGauge C W.1, c_isTerm C W.1, c_isFarm C W.1, c_isSeason, c_isPlace, r_isGauge H W.1, r_isTerm H W.1, r_isFarm H W.1, r_isSeason, r_isWeek, r_isPlace, r_isSheet, ci1, ri1, ci2, ri2, ci3, ri3, ci4, ri4, ci5, ri5, ci11, ri11, ci16, ri16, ci98, ri98, ci99, ri99, ci198, ri198, ci9999, ri9999, c_isSheet C, c_isSort, oa, ob, oc, od, kr1_12 C, ky22 C, c_isMissing C, q0], by simp (disch := omega) only [f_X12_lay, f_X12_lay_b61, obs, b10, b01, bm, if_true_, if_false_, eq_self, not_true_eq_false, not_false_eq_true, true_or, or_true, or_false, false_or, and_true, true_and, and_false, false_and, or_self, and_self, Bool.false_eq_true, ite_self, n25, n20, n24, n100, kk1 C, RS.kk H, c_isGauge C W.1, c_isTerm C W.1, c_isFarm C W.1, c_isSeason, c_isPlace, r_isGauge H W.1, r_isTerm H W.1, r_isFarm H W.1, r_isSeason, r_isWeek, r_isPlace, r_isSheet, ci1, ri1, ci2, ri2, ci3, ri3, ci4, ri4, ci5, ri5, ci11, ri11, ci16, ri16, ci98, ri98, ci99, ri99, ci198, ri198, ci9999, ri9999, oa, ob, oc, od, rg66 H, ra66 H, q0], S, I.up (by omega)⟩
  by_cases q1 : σ.2 66 j = d
  · have qd : ¬ d = -1 := by rw [← q1]; exact q0
    have x1 : f_X11_lay h N 1 (nI g) (nI s) (nI j) d e = f_X11_lay_b65 N h 1 (nI g) (nI s) e (23 + j) := by
      simp (disch := omega) only [f_X11_lay, obs, b10, b01, bm, if_true_, if_false_, eq_self, not_true_eq_false, not_false_eq_true, true_or, or_true, or_false, false_or, and_true, true_and, and_false, false_and, or_self, and_self, Bool.false_eq_true, ite_self, n25, n20, n24, n100, kk1 C, RS.kk H, c_isGauge C W.1, c_isTerm C W.1, c_isFarm C W.1, c_isSeason, c_isPlace, r_isGauge H W.1, r_isTerm H W.1, r_isFarm H W.1, r_isSeason, r_isWeek, r_isPlace, r_isSheet, ci1, ri1, ci2, ri2, ci3, ri3, ci4, ri4, ci5, ri5, ci11, ri11, ci16, ri16, ci98, ri98, ci99, ri99, ci198, ri198, ci9999, ri9999, c_isSheet C, c_isSort, oa, ob, oc, od, kr1_12 C, ky22 C, c_isMissing C, q1, qd, kf23_0 C]
    have x2 : ∀ h2, RS h2 σ → f_X12_lay h2 N 100 (nI g) (nI s) (nI j) d e = f_X12_lay_b61 N h2 100 (nI g) (nI s) (nI j) e := by
      intro h2 H2
      simp (disch := omega) only [f_X12_lay, obs, b10, b01, bm, if_true_, if_false_, eq_self, not_true_eq_false, not_false_eq_true, true_or, or_true, or_false, false_or, and_true, true_and, and_false, false_and, or_self, and_self, Bool.false_eq_true, ite_self, n25, n20, n24, n100, RS.kk H2, r_isGauge H2 W.1, r_isSeason, r_isSheet, ri2, oa, ob, oc, od, rg66 H2, ra66 H2, q1, qd]
    have z12 : ¬ (12 : Int32) < 0 := by decide
    by_cases q2 : e < 0
    · exact ⟨-12, h, h, σ, tr, u, by rw [x1]; simp (disch := omega) only [f_X11_lay_b65, obs, b10, b01, bm, if_true_, if_false_, eq_self, not_true_eq_false, not_false_eq_true, true_or, or_true, or_false, false_or, and_true, true_and, and_false, false_and, or_self, and_self, Bool.false_eq_true, ite_self, n25, n20, n24, n100, c_isMissing C, q1, qd, c_hasItems C, q2], by rw [x2 h H]; simp (disch := omega) only [f_X12_lay_b61, obs, b10, b01, bm, if_true_, if_false_, eq_self, not_true_eq_false, not_false_eq_true, true_or, or_true, or_false, false_or, and_true, true_and, and_false, false_and, or_self, and_self, Bool.false_eq_true, ite_self, n25, n20, n24, n100, rg66 H, ra66 H, q1, qd, q2], S, I.up (by omega)⟩
    by_cases q3 : σ.2 67 j - 12 < e
    · have q3' : ¬ e ≤ σ.2 67 j - 12 := Int32.not_le.mpr q3
      exact ⟨-12, h, h, σ, tr, u, by rw [x1]; simp (disch := omega) only [f_X11_lay_b65, obs, b10, b01, bm, if_true_, if_false_, eq_self, not_true_eq_false, not_false_eq_true, true_or, or_true, or_false, false_or, and_true, true_and, and_false, false_and, or_self, and_self, Bool.false_eq_true, ite_self, n25, n20, n24, n100, c_isMissing C, q1, qd, c_hasItems C, q2, q3], by rw [x2 h H]; simp (disch := omega) only [f_X12_lay_b61, obs, b10, b01, bm, if_true_, if_false_, eq_self, not_true_eq_false, not_false_eq_true, true_or, or_true, or_false, false_or, and_true, true_and, and_false, false_and, or_self, and_self, Bool.false_eq_true, ite_self, n25, n20, n24, n100, rg66 H, ra66 H, rg67 H, ra67 H, q1, qd, q2, q3'], S, I.up (by omega)⟩
    have q3' : e ≤ σ.2 67 j - 12 := Int32.not_lt.mp q3
    obtain ⟨i, hi, rfl⟩ := nI_of q2
    have hi40 : i + 12 ≤ z := by
      have h1 := q3'
      rw [ez, lt12, Int32.le_iff_toInt_le, nIs (by omega) (by omega), nI_toInt hi] at h1
      omega
    have rm := c_room C W.1 (k := 12) (by omega)
    rw [← lt12] at rm
    by_cases q4 : cn σ 7 + 12 ≤ 700
    · have q4' : nI (cn σ 7) + 12 ≤ 700 := by rw [lt12, lt700, nI_add, nI_leI (by omega) (by omega)]; exact q4
      rw [if_pos q4] at rm
      obtain ⟨h1, e1, C1, H1, W1, X1, S1⟩ := c_layL (N := N) (j := j) (i := i) (g := g) (s := s) I q4 hj (by omega) (by omega) hs (by omega)
      obtain ⟨h2, e2, H2, F2⟩ := r_layL (N := N) (j := j) (i := i) (g := g) (s := s) H1 W q4 hj (by omega) (by omega) hs (by omega)
      refine ⟨(itr (layT g s (40 * j + i)) 0 12 (0, σ)).2.1 7, h1, h2, (itr (layT g s (40 * j + i)) 0 12 (0, σ)).2, tr, u, ?_, ?_, S1, I.st C1 F2 H2 W1 (X1.up (by omega)) S1 (by omega)⟩
      · rw [x1]
        simp (disch := omega) only [f_X11_lay_b65, obs, b10, b01, bm, if_true_, if_false_, eq_self, not_true_eq_false, not_false_eq_true, true_or, or_true, or_false, false_or, and_true, true_and, and_false, false_and, or_self, and_self, Bool.false_eq_true, ite_self, n25, n20, n24, n100, c_isMissing C, q1, qd, c_hasItems C, q2, q3, z12, kr1_4 C, rm, e1]
      · rw [x2 h1 H1]
        simp (disch := omega) only [f_X12_lay_b61, obs, b10, b01, bm, if_true_, if_false_, eq_self, not_true_eq_false, not_false_eq_true, true_or, or_true, or_false, false_or, and_true, true_and, and_false, false_and, or_self, and_self, Bool.false_eq_true, ite_self, n25, n20, n24, n100, rg66 H1, ra66 H1, rg67 H1, ra67 H1, q1, qd, q2, q3', RS.gi H1, hTl.1, q4', e2]
    · have q4' : ¬ nI (cn σ 7) + 12 ≤ 700 := by rw [lt12, lt700, nI_add, nI_leI (by omega) (by omega)]; exact q4
      rw [if_neg q4] at rm
      exact ⟨-4, h, h, σ, tr, u, by rw [x1]; simp (disch := omega) only [f_X11_lay_b65, obs, b10, b01, bm, if_true_, if_false_, eq_self, not_true_eq_false, not_false_eq_true, true_or, or_true, or_false, false_or, and_true, true_and, and_false, false_and, or_self, and_self, Bool.false_eq_true, ite_self, n25, n20, n24, n100, c_isMissing C, q1, qd, c_hasItems C, q2, q3, z12, kr1_4 C, rm], by rw [x2 h H]; simp (disch := omega) only [f_X12_lay_b61, obs, b10, b01, bm, if_true_, if_false_, eq_self, not_true_eq_false, not_false_eq_true, true_or, or_true, or_false, false_or, and_true, true_and, and_false, false_and, or_self, and_self, Bool.false_eq_true, ite_self, n25, n20, n24, n100, rg66 H, ra66 H, rg67 H, ra67 H, q1, qd, q2, q3', RS.gi H, hTl.1, q4'], S, I.up (by omega)⟩
  · exact ⟨-13, h, h, σ, tr, u, by simp (disch := omega) only [f_X11_lay, obs, b10, b01, bm, if_true_, if_false_, eq_self, not_true_eq_false, not_false_eq_true, true_or, or_true, or_false, false_or, and_true, true_and, and_false, false_and, or_self, and_self, Bool.false_eq_true, ite_self, n25, n20, n24, n100, kk1 C, RS.kk H, c_isGauge C W.1, c_isTerm C W.1, c_isFarm C W.1, c_isSeason, c_isPlace, r_isGauge H W.1, r_isTerm H W.1, r_isFarm H W.1, r_isSeason, r_isWeek, r_isPlace, r_isSheet, ci1, ri1, ci2, ri2, ci3, ri3, ci4, ri4, ci5, ri5, ci11, ri11, ci16, ri16, ci98, ri98, ci99, ri99, ci198, ri198, ci9999, ri9999, c_isSheet C, c_isSort, oa, ob, oc, od, kr1_12 C, ky22 C, c_isMissing C, q0, kf23_0 C, q1], by simp (disch := omega) only [f_X12_lay, obs, b10, b01, bm, if_true_, if_false_, eq_self, not_true_eq_false, not_false_eq_true, true_or, or_true, or_false, false_or, and_true, true_and, and_false, false_and, or_self, and_self, Bool.false_eq_true, ite_self, n25, n20, n24, n100, kk1 C, RS.kk H, c_isGauge C W.1, c_isTerm C W.1, c_isFarm C W.1, c_isSeason, c_isPlace, r_isGauge H W.1, r_isTerm H W.1, r_isFarm H W.1, r_isSeason, r_isWeek, r_isPlace, r_isSheet, ci1, ri1, ci2, ri2, ci3, ri3, ci4, ri4, ci5, ri5, ci11, ri11, ci16, ri16, ci98, ri98, ci99, ri99, ci198, ri198, ci9999, ri9999, oa, ob, oc, od, rg66 H, ra66 H, q0, q1], S, I.up (by omega)⟩
end
