/-! ===== the class: rain that is filled, terms that pay ===== -/
section
variable {h : AH} {σ : SG} {tr : Nat → Nat} {u N : Nat}
def nbL (σ : SG) (g : Nat) : Option Nat → Int32
  | none => σ.2 5 0 + 1
  | some b => betw σ g b
theorem lt_add1 {a b : Int32} {n : Nat} (ha : bd a n) (hn : n < 2 ^ 31) : a + 1 ≤ b ↔ a < b := by
  obtain ⟨k, hk, rfl⟩ := ha
  rw [nI_1, Int32.le_iff_toInt_le, Int32.lt_iff_toInt_lt, nI_toInt (by omega), nI_toInt (by omega)]
  omega
theorem le_of_not {a b : Int32} (h : ¬ a ≤ b) : b < a := Int32.not_le.mp h
theorem c_nearestTold (C : CS h σ tr u) (W : WV σ) {g s w k : Nat} (hg : g < cn σ 0) (hs : s < 16) (hw : w < 12) (hk : k < 2 ^ 31) (hN : 1000 < N) : f_X11_nearestTold h N 1 (nI g) (nI s) (nI w) (nI k) = some (oI (nbr σ (vK σ k) g s w)) := by
  have hG := W.1.g
  have e5 : xia h 16 0 = some (σ.2 5 0) := kx16 C (j := 0) (by omega)
  simp (disch := omega) only [f_X11_nearestTold, obs, b10, b01, bm, if_true_, if_false_, eq_self, not_true_eq_false, not_false_eq_true, true_or, or_true, or_false, false_or, and_true, true_and, and_false, false_and, or_self, and_self, Bool.false_eq_true, ite_self, n25, n20, n24, n100, kk1 C, kr1_6 C, e5, kr1_0 C, kg10 C W.1, kc200 C]
  refine (lpA (fun n i a => f_X11_nearestTold_b29 h N n 1 (nI g) (nI s) (nI w) (nI k) (oI a) (nbL σ g a) (200 + g) (nI i)) (nbS σ (vK σ k) g s w) (cn σ 0) (fun a => some (oI a)) (fun i a => ∀ b, a = some b → b < i ∧ ¬ σ.2 5 0 < betw σ g b) ?_ ?_ (cn σ 0) N 0 none (by omega) (by omega) (by simp)).1
  · intro n a _
    simp (disch := omega) only [f_X11_nearestTold_b29, f_X11_nearestTold_b29_body, obs, b10, b01, bm, if_true_, if_false_, eq_self, not_true_eq_false, not_false_eq_true, true_or, or_true, or_false, false_or, and_true, true_and, and_false, false_and, or_self, and_self, Bool.false_eq_true, ite_self, n25, n20, n24, n100, kr1_0 C, kz10 C, hG.1, nI_leI, Nat.le_refl]
  · intro n i a hi ha
    have hn : ¬ cn σ 0 ≤ i := by omega
    refine ⟨?_, ?_⟩
    · by_cases q0 : i = g
      · subst q0
        simp (disch := omega) only [f_X11_nearestTold_b29, f_X11_nearestTold_b29_body, f_X11_nearestTold_b121, obs, b10, b01, bm, if_true_, if_false_, eq_self, not_true_eq_false, not_false_eq_true, true_or, or_true, or_false, false_or, and_true, true_and, and_false, false_and, or_self, and_self, Bool.false_eq_true, ite_self, n25, n20, n24, n100, kr1_0 C, kz10 C, hG.1, nI_leI, hn, nI_1, nbS]
      · have q0' : ¬ g = i := fun e => q0 e.symm
        by_cases q1 : vK σ k (sp i s w) = -1
        · simp (disch := omega) only [f_X11_nearestTold_b29, f_X11_nearestTold_b29_body, f_X11_nearestTold_b121, obs, b10, b01, bm, if_true_, if_false_, eq_self, not_true_eq_false, not_false_eq_true, true_or, or_true, or_false, false_or, and_true, true_and, and_false, false_and, or_self, and_self, Bool.false_eq_true, ite_self, n25, n20, n24, n100, kr1_0 C, kr1_4 C, kz10 C, hG.1, nI_leI, hn, nI_eq, q0, nI_1, nbS, c_asKnown C W.1, q1]
        · rcases a with _ | b
          · by_cases q2 : σ.2 5 0 < betw σ g i
            · have q3 : σ.2 5 0 + 1 ≤ dst (σ.2 1 g) (σ.2 2 g) (σ.2 1 i) (σ.2 2 i) := (lt_add1 W.2.2.1.1 (by decide)).mpr q2
              simp (disch := omega) only [f_X11_nearestTold_b29, f_X11_nearestTold_b29_body, f_X11_nearestTold_b121, obs, b10, b01, bm, if_true_, if_false_, eq_self, not_true_eq_false, not_false_eq_true, true_or, or_true, or_false, false_or, and_true, true_and, and_false, false_and, or_self, and_self, Bool.false_eq_true, ite_self, n25, n20, n24, n100, kr1_0 C, kr1_4 C, kz10 C, hG.1, nI_leI, hn, nI_eq, q0, nI_1, nbS, c_asKnown C W.1, q1, kg10 C W.1, kc200 C, kf200_0 C, kf200_1 C, c_distance, nbL, q3, q2]
            · have q3 : ¬ σ.2 5 0 + 1 ≤ dst (σ.2 1 g) (σ.2 2 g) (σ.2 1 i) (σ.2 2 i) := fun e => q2 ((lt_add1 W.2.2.1.1 (by decide)).mp e)
              have q2' : ¬ σ.2 5 0 < dst (σ.2 1 g) (σ.2 2 g) (σ.2 1 i) (σ.2 2 i) := q2
              simp (disch := omega) only [f_X11_nearestTold_b29, f_X11_nearestTold_b29_body, f_X11_nearestTold_b121, obs, b10, b01, bm, if_true_, if_false_, eq_self, not_true_eq_false, not_false_eq_true, true_or, or_true, or_false, false_or, and_true, true_and, and_false, false_and, or_self, and_self, Bool.false_eq_true, ite_self, n25, n20, n24, n100, kr1_0 C, kr1_4 C, kz10 C, hG.1, nI_leI, hn, nI_eq, q0, q0', nI_1, nbS, bt, c_asKnown C W.1, q1, kg10 C W.1, kc200 C, kf200_0 C, kf200_1 C, c_distance, nbL, q3, q2', oI_s, betw]
          · obtain ⟨hb, hb2⟩ := ha b rfl
            by_cases q2 : betw σ g b ≤ betw σ g i
            · have q3 : betw σ g b ≤ dst (σ.2 1 g) (σ.2 2 g) (σ.2 1 i) (σ.2 2 i) := q2
              simp (disch := omega) only [f_X11_nearestTold_b29, f_X11_nearestTold_b29_body, f_X11_nearestTold_b121, obs, b10, b01, bm, if_true_, if_false_, eq_self, not_true_eq_false, not_false_eq_true, true_or, or_true, or_false, false_or, and_true, true_and, and_false, false_and, or_self, and_self, Bool.false_eq_true, ite_self, n25, n20, n24, n100, kr1_0 C, kr1_4 C, kz10 C, hG.1, nI_leI, hn, nI_eq, q0, nI_1, nbS, bt, c_asKnown C W.1, q1, kg10 C W.1, kc200 C, kf200_0 C, kf200_1 C, c_distance, nbL, q3, q2, decide_true, decide_false, Bool.not_true, Bool.not_false, Bool.false_eq_true]
            · have q3 : ¬ betw σ g b ≤ dst (σ.2 1 g) (σ.2 2 g) (σ.2 1 i) (σ.2 2 i) := q2
              have q4 : ¬ σ.2 5 0 < betw σ g i := fun e => hb2 (Int32.lt_trans e (le_of_not q2))
              simp (disch := omega) only [f_X11_nearestTold_b29, f_X11_nearestTold_b29_body, f_X11_nearestTold_b121, obs, b10, b01, bm, if_true_, if_false_, eq_self, not_true_eq_false, not_false_eq_true, true_or, or_true, or_false, false_or, and_true, true_and, and_false, false_and, or_self, and_self, Bool.false_eq_true, ite_self, n25, n20, n24, n100, kr1_0 C, kr1_4 C, kz10 C, hG.1, nI_leI, hn, nI_eq, q0, q0', q4, nI_1, nbS, bt, c_asKnown C W.1, q1, kg10 C W.1, kc200 C, kf200_0 C, kf200_1 C, c_distance, nbL, q3, q2, oI_s, decide_true, decide_false, Bool.not_true, Bool.not_false, Bool.false_eq_true]
              rfl
    · intro b hb
      unfold nbS at hb
      split at hb
      · rename_i q
        cases hb
        exact ⟨by omega, fun e => q.1 (Or.inr e)⟩
      · have := ha b hb
        exact ⟨by omega, this.2⟩
theorem c_usualRain (C : CS h σ tr u) (W : CT σ) {g w k : Nat} (hg : g < 8) (hw : w < 12) (hk : k < 2 ^ 31) (hN : 1000 < N) : f_X11_usualRain h N 1 (nI g) (nI w) (nI k) = some (usual (vK σ k) g w) := by
  unfold f_X11_usualRain
  rw [if_pos (kk1 C)]
  refine (lpB (fun n i a => f_X11_usualRain_b9 h N n 1 (nI g) (nI w) (nI k) a.1 a.2 (nI i)) (usS (vK σ k) g w) 16 (fun a => some (if a.2 = 0 then 0 else a.1 / a.2)) ?_ ?_ (m := 16) (i := 0) (a := (0, 0)) rfl (by omega))
  · intro n a
    by_cases q : a.2 = 0 <;> simp (disch := omega) only [f_X11_usualRain_b9, f_X11_usualRain_b9_body, obs, b10, b01, bm, if_true_, if_false_, eq_self, not_true_eq_false, not_false_eq_true, true_or, or_true, or_false, false_or, and_true, true_and, and_false, false_and, or_self, and_self, Bool.false_eq_true, ite_self, n25, n20, n24, n100, lt16, nI_leI, Nat.le_refl, q]
  · intro n i a hi
    have hn : ¬ 16 ≤ i := by omega
    by_cases q : vK σ k (sp g i w) = -1 <;> simp (disch := omega) only [f_X11_usualRain_b9, f_X11_usualRain_b9_body, f_X11_usualRain_b49, obs, b10, b01, bm, if_true_, if_false_, eq_self, not_true_eq_false, not_false_eq_true, true_or, or_true, or_false, false_or, and_true, true_and, and_false, false_and, or_self, and_self, Bool.false_eq_true, ite_self, n25, n20, n24, n100, lt16, nI_leI, hn, kr1_4 C, c_asKnown C W, q, usS, nI_1]
theorem c_fill (C : CS h σ tr u) (W : WV σ) {g s w k : Nat} (hg : g < cn σ 0) (hs : s < 16) (hw : w < 12) (hk : k < 2 ^ 31) (hN : 1000 < N) : f_X11_fill h N 1 (nI g) (nI s) (nI w) (nI k) = some (filledO σ (vK σ k) g s w) := by
  have hG := W.1.g
  by_cases q : vK σ k (sp g s w) = -1
  · rcases e : nbr σ (vK σ k) g s w with _ | b
    · simp (disch := omega) only [f_X11_fill, obs, b10, b01, bm, if_true_, if_false_, eq_self, not_true_eq_false, not_false_eq_true, true_or, or_true, or_false, false_or, and_true, true_and, and_false, false_and, or_self, and_self, Bool.false_eq_true, ite_self, n25, n20, n24, n100, kk1 C, kr1_4 C, c_asKnown C W.1, q, c_nearestTold C W, c_usualRain C W.1, e, oI_n, filledO]
    · have hb := nbr_lt e
      simp (disch := omega) only [f_X11_fill, obs, b10, b01, bm, if_true_, if_false_, eq_self, not_true_eq_false, not_false_eq_true, true_or, or_true, or_false, false_or, and_true, true_and, and_false, false_and, or_self, and_self, Bool.false_eq_true, ite_self, n25, n20, n24, n100, kk1 C, kr1_4 C, c_asKnown C W.1, q, c_nearestTold C W, e, oI_s, nI_negF, filledO]
  · simp (disch := omega) only [f_X11_fill, obs, b10, b01, bm, if_true_, if_false_, eq_self, not_true_eq_false, not_false_eq_true, true_or, or_true, or_false, false_or, and_true, true_and, and_false, false_and, or_self, and_self, Bool.false_eq_true, ite_self, n25, n20, n24, n100, kk1 C, kr1_4 C, c_asKnown C W.1, q, filledO]
theorem c_now (C : CS h σ tr u) (W : CT σ) : f_X11_now h 1 = some (nI (cn σ 7)) := by
  unfold f_X11_now
  rw [if_pos (kk1 C), kr1_4 C, obs, ki14_3 C, obs, W.tl.1]
theorem c_extreme (C : CS h σ tr u) (W : WV σ) {g s w : Nat} {what : Int32} (hg : g < cn σ 0) (hs : s < 16) (hw : w < 12) (hN : 1000 < N) : f_X11_extreme h N 1 (nI g) (nI s) (nI w) what = some (edgeO σ (vK σ (cn σ 7)) what g s w) := by
  have hG := W.1.g
  have hT := W.1.tl
  have e5 : xia h 16 0 = some (σ.2 5 0) := kx16 C (j := 0) (by omega)
  simp (disch := omega) only [f_X11_extreme, obs, b10, b01, bm, if_true_, if_false_, eq_self, not_true_eq_false, not_false_eq_true, true_or, or_true, or_false, false_or, and_true, true_and, and_false, false_and, or_self, and_self, Bool.false_eq_true, ite_self, n25, n20, n24, n100, kk1 C, kr1_0 C, kg10 C W.1, kc200 C]
  refine lpB (fun n i a => f_X11_extreme_b19 h N n 1 (nI g) (nI s) (nI w) what a (200 + g) (nI i)) (edS σ (vK σ (cn σ 7)) what g s w) (cn σ 0) (fun a => some a) ?_ ?_ (m := cn σ 0) (i := 0) (by omega) (by omega)
  · intro n a
    simp (disch := omega) only [f_X11_extreme_b19, f_X11_extreme_b19_body, obs, b10, b01, bm, if_true_, if_false_, eq_self, not_true_eq_false, not_false_eq_true, true_or, or_true, or_false, false_or, and_true, true_and, and_false, false_and, or_self, and_self, Bool.false_eq_true, ite_self, n25, n20, n24, n100, kr1_0 C, kz10 C, hG.1, nI_leI, Nat.le_refl]
  · intro n i a hi
    have hn : ¬ cn σ 0 ≤ i := by omega
    by_cases q0 : i = g
    · subst q0
      simp (disch := omega) only [f_X11_extreme_b19, f_X11_extreme_b19_body, f_X11_extreme_b144, obs, b10, b01, bm, if_true_, if_false_, eq_self, not_true_eq_false, not_false_eq_true, true_or, or_true, or_false, false_or, and_true, true_and, and_false, false_and, or_self, and_self, Bool.false_eq_true, ite_self, n25, n20, n24, n100, kr1_0 C, kz10 C, hG.1, nI_leI, hn, nI_1, edS, kg10 C W.1, kc200 C]
    · have q0' : ¬ g = i := fun e => q0 e.symm
      by_cases q1 : betw σ g i ≤ σ.2 5 0
      · have q1' : ¬ σ.2 5 0 < betw σ g i := Int32.not_lt.mpr q1
        have q1'' : dst (σ.2 1 g) (σ.2 2 g) (σ.2 1 i) (σ.2 2 i) ≤ σ.2 5 0 := q1
        by_cases q2 : vK σ (cn σ 7) (sp i s w) = -1 <;> by_cases q3 : a = -1 <;> by_cases q4 : what = 0 <;> by_cases q5 : a ≤ vK σ (cn σ 7) (sp i s w) <;> by_cases q6 : vK σ (cn σ 7) (sp i s w) ≤ a <;> simp (disch := omega) only [f_X11_extreme_b19, f_X11_extreme_b19_body, f_X11_extreme_b140, f_X11_extreme_b144, obs, b10, b01, bm, if_true_, if_false_, eq_self, not_true_eq_false, not_false_eq_true, true_or, or_true, or_false, false_or, and_true, true_and, and_false, false_and, or_self, and_self, Bool.false_eq_true, ite_self, n25, n20, n24, n100, kr1_0 C, kr1_4 C, kr1_6 C, kz10 C, hG.1, nI_leI, hn, nI_eq, q0, q0', nI_1, edS, kg10 C W.1, kc200 C, kf200_0 C, kf200_1 C, c_distance, e5, q1', q1'', c_now C W.1, c_asKnown C W.1, q2, q3, q4, q5, q6]
      · have q1' : σ.2 5 0 < betw σ g i := Int32.not_le.mp q1
        have q1'' : ¬ dst (σ.2 1 g) (σ.2 2 g) (σ.2 1 i) (σ.2 2 i) ≤ σ.2 5 0 := q1
        simp (disch := omega) only [f_X11_extreme_b19, f_X11_extreme_b19_body, f_X11_extreme_b144, obs, b10, b01, bm, if_true_, if_false_, eq_self, not_true_eq_false, not_false_eq_true, true_or, or_true, or_false, false_or, and_true, true_and, and_false, false_and, or_self, and_self, Bool.false_eq_true, ite_self, n25, n20, n24, n100, kr1_0 C, kr1_4 C, kr1_6 C, kz10 C, hG.1, nI_leI, hn, nI_eq, q0, q0', nI_1, edS, kg10 C W.1, kc200 C, kf200_0 C, kf200_1 C, c_distance, e5, q1', q1'']
end
