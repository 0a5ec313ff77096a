/-! ===== tables of what was told ===== -/
def sp (o s w : Nat) : Nat := (16 * o + s) * 12 + w
theorem sp_lt {o s w n : Nat} (h1 : o < n) (h2 : s < 16) (h3 : w < 12) : sp o s w < 192 * n := by unfold sp; omega
def TB (σ : SG) (t : Nat) (R G : Nat → Int32) : Prop := t ≤ 1 ∧ (∀ c, c < 1536 → σ.2 11 (1536 * t + c) = R c) ∧ ∀ c, c < 768 → σ.2 12 (768 * t + c) = G c
section
variable {h : AH} {σ : SG} {R G : Nat → Int32} {t N : Nat}
theorem r_spotOf {h : AH} {o s w : Nat} : f_X12_spotOf h (nI o) (nI s) (nI w) = some (nI (sp o s w)) := by
  simp only [f_X12_spotOf, sp, lt2, lt3, lt4, lt5, lt6, lt7, lt8, lt9, lt10, lt11, lt12, lt15, lt16, lt20, lt24, lt25, lt40, lt60, lt80, lt99, lt100, lt198, lt200, lt255, lt700, lt768, lt1536, lt9999, nI_mul, nI_add]
theorem r_rainOf (H : RS h σ) (T : TB σ t R G) {g s w : Nat} (hg : g < 8) (hs : s < 16) (hw : w < 12) : f_X12_rainOf h 100 (nI t) (nI g) (nI s) (nI w) = some (R (sp g s w)) := by
  have h1 := sp_lt hg hs hw
  have h2 := T.1
  simp (disch := omega) only [f_X12_rainOf, obs, b10, b01, bm, if_true_, if_false_, eq_self, not_true_eq_false, not_false_eq_true, true_or, or_true, or_false, false_or, and_true, true_and, and_false, false_and, or_self, and_self, Bool.false_eq_true, ite_self, n25, n20, n24, n100, RS.kk H, rg11 H, r_spotOf, lt1536, nI_mul, nI_add, ra11 H, T.2.1]
/-! ===== rain that is filled ===== -/
def nbS (σ : SG) (R : Nat → Int32) (g s w i : Nat) (a : Option Nat) : Option Nat := if ¬ (g = i ∨ σ.2 5 0 < betw σ g i) ∧ ¬ R (sp i s w) = -1 ∧ bt a (betw σ g) i = true then some i else a
def usS (R : Nat → Int32) (g w i : Nat) (a : Int32 × Int32) : Int32 × Int32 := if R (sp g i w) = -1 then a else (a.1 + R (sp g i w), a.2 + 1)
def nbr (σ : SG) (R : Nat → Int32) (g s w : Nat) : Option Nat := itr (nbS σ R g s w) 0 (cn σ 0) none
def usual (R : Nat → Int32) (g w : Nat) : Int32 := if (itr (usS R g w) 0 16 (0, 0)).2 = 0 then 0 else (itr (usS R g w) 0 16 (0, 0)).1 / (itr (usS R g w) 0 16 (0, 0)).2
def filledO (σ : SG) (R : Nat → Int32) (g s w : Nat) : Int32 := if R (sp g s w) = -1 then (match nbr σ R g s w with
  | none => usual R g w
  | some b => R (sp b s w)) else R (sp g s w)
theorem bnd_of {σ : SG} {st : Nat → Option Nat → Option Nat} {i : Nat} (hs : ∀ j a, st j a = some j ∨ st j a = a) : ∀ m, ∀ b, itr st i m none = some b → b < i + m := by
  intro m
  exact itr_inv (fun j a => ∀ b, a = some b → b < j) (by simp) (fun j a h1 h2 ha b hb => by
    rcases hs j a with e | e
    · rw [e] at hb; cases hb; omega
    · rw [e] at hb; have := ha b hb; omega)
theorem nbS_or (σ : SG) (R : Nat → Int32) (g s w i : Nat) (a : Option Nat) : nbS σ R g s w i a = some i ∨ nbS σ R g s w i a = a := by
  unfold nbS
  split
  · exact Or.inl rfl
  · exact Or.inr rfl
theorem ggS_or (σ : SG) (f : Nat) (s : Int32) (i : Nat) (a : Option Nat) : ggS σ f s i a = some i ∨ ggS σ f s i a = a := by
  unfold ggS
  split
  · exact Or.inl rfl
  · exact Or.inr rfl
theorem nbr_lt {g s w b : Nat} (e : nbr σ R g s w = some b) : b < cn σ 0 := by
  have := bnd_of (σ := σ) (i := 0) (nbS_or σ R g s w) (cn σ 0) b e
  omega
theorem gaugeOf_lt {f b : Nat} {s : Int32} (e : gaugeOf σ f s = some b) : b < cn σ 0 := by
  have := bnd_of (σ := σ) (i := 0) (ggS_or σ f s) (cn σ 0) b e
  omega
theorem r_usual (H : RS h σ) (T : TB σ t R G) {g w : Nat} (hg : g < 8) (hw : w < 12) (hN : 100 < N) : f_X12_filledOf_b135 h N N 100 (nI t) (nI g) (nI w) 0 0 0 = some (usual R g w) := by
  refine (lpB (fun n i a => f_X12_filledOf_b135 h N n 100 (nI t) (nI g) (nI w) a.1 a.2 (nI i)) (usS R g w) 16 (fun a => some (if a.2 = 0 then 0 else a.1 / a.2)) ?_ ?_ (m := 16) (i := 0) (a := (0, 0)) rfl (by omega))
  · intro n a
    by_cases q : a.2 = 0 <;> simp (disch := omega) only [f_X12_filledOf_b135, f_X12_filledOf_b135_body, obs, b10, b01, bm, if_true_, if_false_, eq_self, not_true_eq_false, not_false_eq_true, true_or, or_true, or_false, false_or, and_true, true_and, and_false, false_and, or_self, and_self, Bool.false_eq_true, ite_self, n25, n20, n24, n100, lt16, nI_leI, Nat.le_refl, q]
  · intro n i a hi
    have hn : ¬ 16 ≤ i := by omega
    by_cases q : R (sp g i w) = -1 <;> simp (disch := omega) only [f_X12_filledOf_b135, f_X12_filledOf_b135_body, f_X12_filledOf_b168, f_X12_filledOf_b184, obs, b10, b01, bm, if_true_, if_false_, eq_self, not_true_eq_false, not_false_eq_true, true_or, or_true, or_false, false_or, and_true, true_and, and_false, false_and, or_self, and_self, Bool.false_eq_true, ite_self, n25, n20, n24, n100, lt16, nI_leI, hn, r_rainOf H T, q, usS, Int32.add_zero, nI_1]
theorem r_filledOf (H : RS h σ) (W : CT σ) (T : TB σ t R G) {g s w : Nat} (hg : g < 8) (hs : s < 16) (hw : w < 12) (hN : 100 < N) : f_X12_filledOf h N 100 (nI t) (nI g) (nI s) (nI w) = some (filledO σ R g s w) := by
  have hG := W.g
  by_cases q0 : R (sp g s w) = -1
  · simp (disch := omega) only [f_X12_filledOf, obs, b10, b01, bm, if_true_, if_false_, eq_self, not_true_eq_false, not_false_eq_true, true_or, or_true, or_false, false_or, and_true, true_and, and_false, false_and, or_self, and_self, Bool.false_eq_true, ite_self, n25, n20, n24, n100, RS.kk H, r_rainOf H T, q0, filledO]
    rw [← oI_n, ← nI_0]
    rw [(lpA (fun n i a => f_X12_filledOf_b26 h N n 100 (nI t) (nI g) (nI s) (nI w) (oI a) (nI i)) (nbS σ R g s w) (cn σ 0) (fun a => some (match a with
      | none => usual R g w
      | some b => R (sp b s w))) (fun i a => ∀ b, a = some b → b < i) ?_ ?_ (cn σ 0) N 0 none (by omega) (by omega) (by simp)).1]
    · rfl
    · intro n a ha
      rcases a with _ | b
      · simp (disch := omega) only [f_X12_filledOf_b26, f_X12_filledOf_b26_body, obs, b10, b01, bm, if_true_, if_false_, eq_self, not_true_eq_false, not_false_eq_true, true_or, or_true, or_false, false_or, and_true, true_and, and_false, false_and, or_self, and_self, Bool.false_eq_true, ite_self, n25, n20, n24, n100, RS.gi H, hG.1, nI_leI, Nat.le_refl, oI_n, r_usual H T]
      · have hb := ha b rfl
        simp (disch := omega) only [f_X12_filledOf_b26, f_X12_filledOf_b26_body, obs, b10, b01, bm, if_true_, if_false_, eq_self, not_true_eq_false, not_false_eq_true, true_or, or_true, or_false, false_or, and_true, true_and, and_false, false_and, or_self, and_self, Bool.false_eq_true, ite_self, n25, n20, n24, n100, RS.gi H, hG.1, nI_leI, Nat.le_refl, oI_s, nI_negF, r_rainOf H T]
    · intro n i a hi ha
      have hn : ¬ cn σ 0 ≤ i := by omega
      refine ⟨?_, ?_⟩
      · rcases a with _ | b
        · by_cases q1 : g = i ∨ σ.2 5 0 < betw σ g i <;> by_cases q2 : R (sp i s w) = -1 <;> simp (disch := omega) only [f_X12_filledOf_b26, f_X12_filledOf_b26_body, f_X12_filledOf_b63, f_X12_filledOf_b64, f_X12_filledOf_b94, f_X12_filledOf_b99, f_X12_filledOf_b101, obs, b10, b01, bm, if_true_, if_false_, eq_self, not_true_eq_false, not_false_eq_true, true_or, or_true, or_false, false_or, and_true, true_and, and_false, false_and, or_self, and_self, Bool.false_eq_true, ite_self, n25, n20, n24, n100, RS.gi H, hG.1, nI_leI, hn, oI_n, oI_s, r_areNear H, r_rainOf H T, nbS, bt, q1, q2, nI_1]
        · have hb := ha b rfl
          by_cases q1 : g = i ∨ σ.2 5 0 < betw σ g i <;> by_cases q2 : R (sp i s w) = -1 <;> by_cases q3 : betw σ g b ≤ betw σ g i <;> simp (disch := omega) only [f_X12_filledOf_b26, f_X12_filledOf_b26_body, f_X12_filledOf_b63, f_X12_filledOf_b64, f_X12_filledOf_b94, f_X12_filledOf_b99, f_X12_filledOf_b101, obs, b10, b01, bm, if_true_, if_false_, eq_self, not_true_eq_false, not_false_eq_true, true_or, or_true, or_false, false_or, and_true, true_and, and_false, false_and, or_self, and_self, Bool.false_eq_true, ite_self, n25, n20, n24, n100, RS.gi H, hG.1, nI_leI, hn, oI_n, oI_s, nI_negF, r_areNear H, r_rainOf H T, r_between H, nbS, bt, q1, q2, q3, nI_1, decide_true, decide_false, Bool.not_true, Bool.not_false, Bool.false_eq_true]
      · intro b hb
        rcases nbS_or σ R g s w i a with e | e
        · rw [e] at hb; cases hb; omega
        · rw [e] at hb; have := ha b hb; omega
  · simp (disch := omega) only [f_X12_filledOf, obs, b10, b01, bm, if_true_, if_false_, eq_self, not_true_eq_false, not_false_eq_true, true_or, or_true, or_false, false_or, and_true, true_and, and_false, false_and, or_self, and_self, Bool.false_eq_true, ite_self, n25, n20, n24, n100, RS.kk H, r_rainOf H T, q0, filledO]
/-! ===== least and greatest ===== -/
def edS (σ : SG) (R : Nat → Int32) (what : Int32) (g s w i : Nat) (b : Int32) : Int32 := if ¬ (g = i ∨ σ.2 5 0 < betw σ g i) ∧ ¬ R (sp i s w) = -1 ∧ (b = -1 ∨ (what = 0 ∧ ¬ b ≤ R (sp i s w)) ∨ (¬ what = 0 ∧ ¬ R (sp i s w) ≤ b)) then R (sp i s w) else b
def edgeO (σ : SG) (R : Nat → Int32) (what : Int32) (g s w : Nat) : Int32 := itr (edS σ R what g s w) 0 (cn σ 0) (-1)
theorem r_edge (H : RS h σ) (W : CT σ) (T : TB σ 0 R G) {g s w : Nat} {what : Int32} (hg : g < 8) (hs : s < 16) (hw : w < 12) (hN : 100 < N) : f_X12_edge h N 100 (nI g) (nI s) (nI w) what = some (edgeO σ R what g s w) := by
  have hG := W.g
  have T0 : ∀ {i : Nat}, i < 8 → f_X12_rainOf h 100 0 (nI i) (nI s) (nI w) = some (R (sp i s w)) := fun hi => r_rainOf H T hi hs hw
  unfold f_X12_edge
  rw [if_pos H.1]
  refine lpB (fun n i a => f_X12_edge_b6 h N n 100 (nI g) (nI s) (nI w) what a (nI i)) (edS σ R what g s w) (cn σ 0) (fun a => some a) ?_ ?_ (m := cn σ 0) (i := 0) (by omega) (by omega)
  · intro n a
    simp (disch := omega) only [f_X12_edge_b6, f_X12_edge_b6_body, obs, b10, b01, bm, if_true_, if_false_, eq_self, not_true_eq_false, not_false_eq_true, true_or, or_true, or_false, false_or, and_true, true_and, and_false, false_and, or_self, and_self, Bool.false_eq_true, ite_self, n25, n20, n24, n100, RS.gi H, hG.1, nI_leI, Nat.le_refl]
  · intro n i a hi
    have hn : ¬ cn σ 0 ≤ i := by omega
    by_cases q1 : g = i ∨ σ.2 5 0 < betw σ g i <;> by_cases q2 : R (sp i s w) = -1 <;> by_cases q3 : a = -1 <;> by_cases q4 : what = 0 <;> by_cases q5 : a ≤ R (sp i s w) <;> by_cases q6 : R (sp i s w) ≤ a <;> simp (disch := omega) only [f_X12_edge_b6, f_X12_edge_b6_body, f_X12_edge_b54, f_X12_edge_b58, f_X12_edge_b59, f_X12_edge_b87, f_X12_edge_b89, obs, b10, b01, bm, if_true_, if_false_, eq_self, not_true_eq_false, not_false_eq_true, true_or, or_true, or_false, false_or, and_true, true_and, and_false, false_and, or_self, and_self, Bool.false_eq_true, ite_self, n25, n20, n24, n100, RS.gi H, hG.1, nI_leI, hn, r_areNear H, T0, edS, q1, q2, q3, q4, q5, q6, nI_1]
end
