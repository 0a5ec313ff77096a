/-! ===== public: line ===== -/
section
variable {L N : Nat} {xs : Nat → Int32} {h h' : AH} {σ σ' : SG} {tr : Nat → Nat} {u n : Nat}
def plR (σ : SG) (s f : Nat) : Int32 := match termO σ f (nI s) with
  | none => 0
  | some t => nI (fpN σ f s t)
def ovO (σ : SG) (s d a b : Nat) : Bool := !decide (plR σ s a = plR σ s b) && (decide (dst (σ.2 27 a) (σ.2 28 a) (σ.2 27 b) (σ.2 28 b) ≤ nI d) && (match termO σ a (nI s) with
  | none => false
  | some t => decide (termO σ b (nI s) = some t) && (match gaugeOf σ a (nI s) with
    | none => true
    | some g => !decide (gaugeOf σ b (nI s) = some g))))
theorem tt_b (W : WV σ) {f : Nat} {s : Int32} : ∀ k, termO σ f s = some k → k < 2 ^ 31 := by
  intro k e
  have := termO_lt W e
  have := W.1.t
  omega
theorem c_gatherCP (C : CS h σ tr u) (W : WV σ) {s : Nat} (hs : s < 16) (hN : 1000 < N) : ∃ h', f_X11_gatherCoveredPays h N 1 (nI s) = some h' ∧ SCR h h' ∧ ∀ f, f < cn σ 26 → ai h' 29 f = plR σ s f := by
  have hF := W.1.f
  have hT := W.1.t
  unfold f_X11_gatherCoveredPays
  rw [if_pos (kk1 C)]
  refine (lpS (σ := AH) (α := Unit) (fun n i h _ => f_X11_gatherCoveredPays_b2 N n h 1 (nI s) (nI i)) (fun _ a => a) (cn σ 26) (fun h' _ => some h') (fun i h' _ => SCR h h' ∧ ∀ f, f < i → ai h' 29 f = plR σ s f) ?_ ?_ (cn σ 26) N 0 h () (by omega) (by omega) ⟨SCR.refl, fun w hw => absurd hw (by omega)⟩).elim (fun h' e => ⟨h', e.1, e.2.1, e.2.2⟩)
  · intro n h' _ ⟨S, _⟩
    have C' := C.scr S
    simp (disch := omega) only [f_X11_gatherCoveredPays_b2, f_X11_gatherCoveredPays_b2_body, obs, b10, b01, bm, if_true_, if_false_, eq_self, not_true_eq_false, not_false_eq_true, true_or, or_true, or_false, false_or, and_true, true_and, and_false, false_and, or_self, and_self, Bool.false_eq_true, ite_self, n25, n20, n24, n100, kr1_2 C', kz12 C', hF.1, nI_leI, Nat.le_refl]
  · intro n i h' _ hi ⟨S, hw⟩
    have C' := C.scr S
    have hn : ¬ cn σ 26 ≤ i := by omega
    rcases e : termO σ i (nI s) with _ | t
    · have x1 : xis h' 29 (nI i) 0 = some (sai h' 29 i 0) := xis_of (kk29 C') (kl C' (by decide)) (show i < 24 by omega) (by decide)
      refine ⟨sai h' 29 i 0, ?_, S.trans (SCR.w (by omega) (by omega)), ?_⟩
      · simp (disch := omega) only [f_X11_gatherCoveredPays_b2, f_X11_gatherCoveredPays_b2_body, f_X11_gatherCoveredPays_b55, obs, b10, b01, bm, if_true_, if_false_, eq_self, not_true_eq_false, not_false_eq_true, true_or, or_true, or_false, false_or, and_true, true_and, and_false, false_and, or_self, and_self, Bool.false_eq_true, ite_self, n25, n20, n24, n100, kr1_2 C', kr1_19 C', kz12 C', hF.1, nI_leI, hn, c_termOf C' W, e, oI_n, x1, nI_1]
      · intro f hf
        rw [ai_sai]
        by_cases ef : f = i
        · rw [if_pos ⟨rfl, ef⟩, ef]; unfold plR; rw [e]
        · rw [if_neg (fun z => ef z.2)]; exact hw f (by omega)
    · have ht := termO_lt W e
      obtain ⟨h2, e2, S2, -, S9⟩ := c_fp (N := N) C' W hi hs ht hN
      have C2 := C'.scr S2
      have x1 : xis h2 29 (nI i) (nI (fpN σ i s t)) = some (sai h2 29 i (nI (fpN σ i s t))) := xis_of (kk29 C2) (kl C2 (by decide)) (show i < 24 by omega) (by decide)
      refine ⟨sai h2 29 i (nI (fpN σ i s t)), ?_, (S.trans S2).trans (SCR.w (by omega) (by omega)), ?_⟩
      · simp (disch := omega) only [f_X11_gatherCoveredPays_b2, f_X11_gatherCoveredPays_b2_body, f_X11_gatherCoveredPays_b55, obs, b10, b01, bm, if_true_, if_false_, eq_self, not_true_eq_false, not_false_eq_true, true_or, or_true, or_false, false_or, and_true, true_and, and_false, false_and, or_self, and_self, Bool.false_eq_true, ite_self, n25, n20, n24, n100, kr1_2 C', kr1_19 C', kz12 C', hF.1, nI_leI, hn, c_termOf C' W, e, oI_s, nI_negF, kg12 C' W.1, kc300 C', c_now C' W.1, e2, x1, nI_1]
      · intro f hf
        rw [ai_sai]
        by_cases ef : f = i
        · rw [if_pos ⟨rfl, ef⟩, ef]; unfold plR; rw [e]
        · rw [if_neg (fun z => ef z.2), S9]; exact hw f (by omega)
theorem c_isOver (C : CS h σ tr u) (W : WV σ) {s d a b : Nat} (hr : ∀ f, f < cn σ 26 → ai h 29 f = plR σ s f) (ha : a < cn σ 26) (hb : b < cn σ 26) (hN : 100 < N) : f_X11_isOverLine h N 1 (nI a) (nI b) (nI s) (nI d) = some (if ovO σ s d a b then 1 else 0) := by
  have hF := W.1.f
  have hT := W.1.t
  have hG := W.1.g
  have hx : ∀ {f : Nat}, f < cn σ 26 → xia h 29 (nI f) = some (plR σ s f) := fun hf => xia_of (kk29 C) (kl C (by decide)) (show _ < 24 by omega) (by decide) (hr _ hf)
  by_cases q1 : plR σ s a = plR σ s b
  · simp (disch := omega) only [f_X11_isOverLine, ovO, obs, b10, b01, bm, if_true_, if_false_, eq_self, not_true_eq_false, not_false_eq_true, true_or, or_true, or_false, false_or, and_true, true_and, and_false, false_and, or_self, and_self, Bool.false_eq_true, ite_self, n25, n20, n24, n100, decide_true, decide_false, Bool.not_true, Bool.not_false, Bool.and_true, Bool.and_false, Bool.true_and, Bool.false_and, kk1 C, kr1_2 C, kr1_19 C, kg12 C W.1, kc300 C, hx, q1]
  by_cases q2 : dst (σ.2 27 a) (σ.2 28 a) (σ.2 27 b) (σ.2 28 b) ≤ nI d
  · rcases e1 : termO σ a (nI s) with _ | t
    · simp (disch := omega) only [f_X11_isOverLine, ovO, obs, b10, b01, bm, if_true_, if_false_, eq_self, not_true_eq_false, not_false_eq_true, true_or, or_true, or_false, false_or, and_true, true_and, and_false, false_and, or_self, and_self, Bool.false_eq_true, ite_self, n25, n20, n24, n100, decide_true, decide_false, Bool.not_true, Bool.not_false, Bool.and_true, Bool.and_false, Bool.true_and, Bool.false_and, kk1 C, kr1_2 C, kr1_19 C, kg12 C W.1, kc300 C, hx, q1, kf300_1 C, kf300_2 C, c_distance, q2, c_termOf C W, e1, oI_n]
    · have ht := termO_lt W e1
      have hx2 : (nI t = oI (termO σ b (nI s))) = (some t = termO σ b (nI s)) := oI_inj (o := some t) (fun k e => by have := Option.some.inj e; omega) (tt_b W)
      by_cases q3 : termO σ b (nI s) = some t
      · rcases e2 : gaugeOf σ a (nI s) with _ | g
        · simp (disch := omega) only [f_X11_isOverLine, f_X11_isOverLine_b125, ovO, obs, b10, b01, bm, if_true_, if_false_, eq_self, not_true_eq_false, not_false_eq_true, true_or, or_true, or_false, false_or, and_true, true_and, and_false, false_and, or_self, and_self, Bool.false_eq_true, ite_self, n25, n20, n24, n100, decide_true, decide_false, Bool.not_true, Bool.not_false, Bool.and_true, Bool.and_false, Bool.true_and, Bool.false_and, kk1 C, kr1_2 C, kr1_19 C, kg12 C W.1, kc300 C, hx, q1, kf300_1 C, kf300_2 C, c_distance, q2, c_termOf C W, e1, oI_s, nI_negF, hx2, eq_comm (a := some t), q3, c_gaugeOf C W, e2, oI_n]
        · have hg := gaugeOf_lt e2
          have hx3 : (nI g = oI (gaugeOf σ b (nI s))) = (some g = gaugeOf σ b (nI s)) := oI_inj (o := some g) (fun k e => by have := Option.some.inj e; omega) (gg_b W.1)
          by_cases q4 : gaugeOf σ b (nI s) = some g <;> simp (disch := omega) only [f_X11_isOverLine, f_X11_isOverLine_b125, ovO, obs, b10, b01, bm, if_true_, if_false_, eq_self, not_true_eq_false, not_false_eq_true, true_or, or_true, or_false, false_or, and_true, true_and, and_false, false_and, or_self, and_self, Bool.false_eq_true, ite_self, n25, n20, n24, n100, decide_true, decide_false, Bool.not_true, Bool.not_false, Bool.and_true, Bool.and_false, Bool.true_and, Bool.false_and, kk1 C, kr1_2 C, kr1_19 C, kg12 C W.1, kc300 C, hx, q1, kf300_1 C, kf300_2 C, c_distance, q2, c_termOf C W, e1, oI_s, nI_negF, hx2, eq_comm (a := some t), q3, c_gaugeOf C W, e2, hx3, eq_comm (a := some g), q4]
      · simp (disch := omega) only [f_X11_isOverLine, ovO, obs, b10, b01, bm, if_true_, if_false_, eq_self, not_true_eq_false, not_false_eq_true, true_or, or_true, or_false, false_or, and_true, true_and, and_false, false_and, or_self, and_self, Bool.false_eq_true, ite_self, n25, n20, n24, n100, decide_true, decide_false, Bool.not_true, Bool.not_false, Bool.and_true, Bool.and_false, Bool.true_and, Bool.false_and, kk1 C, kr1_2 C, kr1_19 C, kg12 C W.1, kc300 C, hx, q1, kf300_1 C, kf300_2 C, c_distance, q2, c_termOf C W, e1, oI_s, nI_negF, hx2, eq_comm (a := some t), q3]
  · simp (disch := omega) only [f_X11_isOverLine, ovO, obs, b10, b01, bm, if_true_, if_false_, eq_self, not_true_eq_false, not_false_eq_true, true_or, or_true, or_false, false_or, and_true, true_and, and_false, false_and, or_self, and_self, Bool.false_eq_true, ite_self, n25, n20, n24, n100, decide_true, decide_false, Bool.not_true, Bool.not_false, Bool.and_true, Bool.and_false, Bool.true_and, Bool.false_and, kk1 C, kr1_2 C, kr1_19 C, kg12 C W.1, kc300 C, hx, q1, kf300_1 C, kf300_2 C, c_distance, q2]
def lnI (σ : SG) (s d a b : Nat) (y : Nat × Int32) : Nat × Int32 := if ovO σ s d a b then (y.1 + 1, if y.1 = 0 then nI (24 * a + b) else y.2) else y
def lnO (σ : SG) (s d a : Nat) (y : Nat × Int32) : Nat × Int32 := itr (lnI σ s d a) (a + 1) (cn σ 26 - (a + 1)) y
theorem lnI_le (σ : SG) (s d a b : Nat) (y : Nat × Int32) : (lnI σ s d a b y).1 ≤ y.1 + 1 := by
  unfold lnI
  split
  · exact Nat.le_refl _
  · omega
theorem r_lineI (H : RS h σ) (W : WV σ) {s d a : Nat} {w : Int32} (hs : s < 16) (hd : d < 199) (ha : a < cn σ 26) (hN : 100 < N) (K : Nat → Int32 → Int32 → Int32 → Int32 → Int32 → Int32 → Option Int32) {y : Nat × Int32} (hy : y.1 ≤ 24 * a) :
    f_X12_line_b56 h N K N 100 (nI s) (nI d) w (nI y.1) y.2 (nI a) (nI (a + 1)) = K 100 (nI s) (nI d) w (nI (lnO σ s d a y).1) (lnO σ s d a y).2 (nI (a + 1)) ∧ (lnO σ s d a y).1 ≤ 24 * (a + 1) := by
  have hF := W.1.f
  have hT := W.1.t
  have hG := W.1.g
  have := lpA (fun n b (y : Nat × Int32) => f_X12_line_b56 h N K n 100 (nI s) (nI d) w (nI y.1) y.2 (nI a) (nI b)) (lnI σ s d a) (cn σ 26) (fun y => K 100 (nI s) (nI d) w (nI y.1) y.2 (nI (a + 1))) (fun b y => y.1 ≤ 24 * a + b ∧ a < b) ?_ ?_ (cn σ 26 - (a + 1)) N (a + 1) y (by omega) (by omega) ⟨by omega, by omega⟩
  · refine ⟨this.1, ?_⟩
    have h2 := this.2.1
    show (itr (lnI σ s d a) (a + 1) (cn σ 26 - (a + 1)) y).1 ≤ _
    omega
  · intro n y _
    simp (disch := omega) only [f_X12_line_b56, f_X12_line_b56_body, obs, b10, b01, bm, if_true_, if_false_, eq_self, not_true_eq_false, not_false_eq_true, true_or, or_true, or_false, false_or, and_true, true_and, and_false, false_and, or_self, and_self, Bool.false_eq_true, ite_self, n25, n20, n24, n100, RS.gi H, hF.1, nI_leI, Nat.le_refl, nI_1]
  · intro n b y hb ⟨hy, hab⟩
    have hn : ¬ cn σ 26 ≤ b := by omega
    refine ⟨?_, by have := lnI_le σ s d a b y; omega, by omega⟩
    have fd : dst (σ.2 27 a) (σ.2 28 a) (σ.2 27 b) (σ.2 28 b) ≤ nI d ∨ nI d < dst (σ.2 27 a) (σ.2 28 a) (σ.2 27 b) (σ.2 28 b) := by
      rcases Classical.em (nI d < dst (σ.2 27 a) (σ.2 28 a) (σ.2 27 b) (σ.2 28 b)) with q | q
      · exact Or.inr q
      · exact Or.inl (Int32.not_lt.mp q)
    have e24 : (24 : Int32) * nI a + nI b = nI (24 * a + b) := by rw [lt24, nI_mul, nI_add]
    rcases e1 : termO σ a (nI s) with _ | t
    · have hov : ovO σ s d a b = false := by unfold ovO; rw [e1]; simp
      simp (disch := omega) only [f_X12_line_b56, f_X12_line_b56_body, f_X12_line_b147, f_X12_line_b148, f_X12_line_b201, obs, b10, b01, bm, if_true_, if_false_, eq_self, not_true_eq_false, not_false_eq_true, true_or, or_true, or_false, false_or, and_true, true_and, and_false, false_and, or_self, and_self, Bool.false_eq_true, ite_self, n25, n20, n24, n100, RS.gi H, hF.1, nI_leI, hn, r_termOf H W, r_gaugeOf H W.1, e1, oI_n, lnI, hov, nI_1]
    · have ht := termO_lt W e1
      have hx2 : (nI t = oI (termO σ b (nI s))) = (some t = termO σ b (nI s)) := oI_inj (o := some t) (fun k e => by have := Option.some.inj e; omega) (tt_b W)
      have p1 : plR σ s a = nI (fpN σ a s t) := by unfold plR; rw [e1]
      by_cases q3 : termO σ b (nI s) = some t
      · have p2 : plR σ s b = nI (fpN σ b s t) := by unfold plR; rw [q3]
        have l3 : ∀ (K2 : Nat → Int32 → Int32 → Int32 → Int32 → Int32 → Int32 → Int32 → Option Int32), f_X12_line_b148 h N K K2 100 (nI s) (nI d) w (nI y.1) y.2 (nI a) (nI b) (nI t) 1 = if plR σ s a = plR σ s b then K2 100 (nI s) (nI d) w (nI y.1) y.2 (nI a) (nI (b + 1)) else K2 100 (nI s) (nI d) w (nI (y.1 + 1)) (if y.1 = 0 then nI (24 * a + b) else y.2) (nI a) (nI (b + 1)) := by
          intro K2
          rw [p1, p2]
          by_cases z : nI (fpN σ a s t) = nI (fpN σ b s t)
          · simp (disch := omega) only [f_X12_line_b148, f_X12_line_b201, obs, b10, b01, bm, if_true_, if_false_, eq_self, not_true_eq_false, not_false_eq_true, true_or, or_true, or_false, false_or, and_true, true_and, and_false, false_and, or_self, and_self, Bool.false_eq_true, ite_self, n25, n20, n24, n100, r_fp H W, z, nI_1]
          · by_cases z2 : y.1 = 0
            · simp (disch := omega) only [f_X12_line_b148, f_X12_line_b196, f_X12_line_b201, obs, b10, b01, bm, if_true_, if_false_, eq_self, not_true_eq_false, not_false_eq_true, true_or, or_true, or_false, false_or, and_true, true_and, and_false, false_and, or_self, and_self, Bool.false_eq_true, ite_self, n25, n20, n24, n100, r_fp H W, z, z2, nI_0, e24, nI_1]
              rfl
            · have z3 : ¬ nI y.1 = 0 := nI_ne0 (by omega) (by omega)
              simp (disch := omega) only [f_X12_line_b148, f_X12_line_b196, f_X12_line_b201, obs, b10, b01, bm, if_true_, if_false_, eq_self, not_true_eq_false, not_false_eq_true, true_or, or_true, or_false, false_or, and_true, true_and, and_false, false_and, or_self, and_self, Bool.false_eq_true, ite_self, n25, n20, n24, n100, r_fp H W, z, z2, z3, nI_1]
        rcases fd with q2 | q2
        · have q2' : ¬ nI d < dst (σ.2 27 a) (σ.2 28 a) (σ.2 27 b) (σ.2 28 b) := Int32.not_lt.mpr q2
          rcases e2 : gaugeOf σ a (nI s) with _ | g
          · by_cases q1 : plR σ s a = plR σ s b
            · have hov : ovO σ s d a b = false := by unfold ovO; rw [q1]; simp
              simp (disch := omega) only [f_X12_line_b56, f_X12_line_b56_body, f_X12_line_b143, obs, b10, b01, bm, if_true_, if_false_, eq_self, not_true_eq_false, not_false_eq_true, true_or, or_true, or_false, false_or, and_true, true_and, and_false, false_and, or_self, and_self, Bool.false_eq_true, ite_self, n25, n20, n24, n100, RS.gi H, hF.1, nI_leI, hn, r_termOf H W, r_gaugeOf H W.1, e1, e2, oI_n, oI_s, nI_negF, hx2, eq_comm (a := some t), q3, rg27 H, ra27 H, rg28 H, ra28 H, r_farFrom H, q2', l3, q1, lnI, hov]
            · have hov : ovO σ s d a b = true := by simp [ovO, e1, e2, q1, q2, q3]
              simp (disch := omega) only [f_X12_line_b56, f_X12_line_b56_body, f_X12_line_b143, obs, b10, b01, bm, if_true_, if_false_, eq_self, not_true_eq_false, not_false_eq_true, true_or, or_true, or_false, false_or, and_true, true_and, and_false, false_and, or_self, and_self, Bool.false_eq_true, ite_self, n25, n20, n24, n100, RS.gi H, hF.1, nI_leI, hn, r_termOf H W, r_gaugeOf H W.1, e1, e2, oI_n, oI_s, nI_negF, hx2, eq_comm (a := some t), q3, rg27 H, ra27 H, rg28 H, ra28 H, r_farFrom H, q2', l3, q1, lnI, hov]
          · have hg := gaugeOf_lt e2
            have hx3 : (nI g = oI (gaugeOf σ b (nI s))) = (some g = gaugeOf σ b (nI s)) := oI_inj (o := some g) (fun k e => by have := Option.some.inj e; omega) (gg_b W.1)
            by_cases q4 : gaugeOf σ b (nI s) = some g
            · have hov : ovO σ s d a b = false := by simp [ovO, e1, e2, q4]
              simp (disch := omega) only [f_X12_line_b56, f_X12_line_b56_body, f_X12_line_b147, f_X12_line_b148, f_X12_line_b201, obs, b10, b01, bm, if_true_, if_false_, eq_self, not_true_eq_false, not_false_eq_true, true_or, or_true, or_false, false_or, and_true, true_and, and_false, false_and, or_self, and_self, Bool.false_eq_true, ite_self, n25, n20, n24, n100, RS.gi H, hF.1, nI_leI, hn, r_termOf H W, r_gaugeOf H W.1, e1, e2, oI_n, oI_s, nI_negF, hx2, eq_comm (a := some t), q3, rg27 H, ra27 H, rg28 H, ra28 H, r_farFrom H, q2', hx3, eq_comm (a := some g), q4, lnI, hov, nI_1]
            · by_cases q1 : plR σ s a = plR σ s b
              · have hov : ovO σ s d a b = false := by unfold ovO; rw [q1]; simp
                simp (disch := omega) only [f_X12_line_b56, f_X12_line_b56_body, f_X12_line_b143, obs, b10, b01, bm, if_true_, if_false_, eq_self, not_true_eq_false, not_false_eq_true, true_or, or_true, or_false, false_or, and_true, true_and, and_false, false_and, or_self, and_self, Bool.false_eq_true, ite_self, n25, n20, n24, n100, RS.gi H, hF.1, nI_leI, hn, r_termOf H W, r_gaugeOf H W.1, e1, e2, oI_n, oI_s, nI_negF, hx2, eq_comm (a := some t), q3, rg27 H, ra27 H, rg28 H, ra28 H, r_farFrom H, q2', hx3, eq_comm (a := some g), q4, l3, q1, lnI, hov]
              · have hov : ovO σ s d a b = true := by simp [ovO, e1, e2, q1, q2, q3, q4]
                simp (disch := omega) only [f_X12_line_b56, f_X12_line_b56_body, f_X12_line_b143, obs, b10, b01, bm, if_true_, if_false_, eq_self, not_true_eq_false, not_false_eq_true, true_or, or_true, or_false, false_or, and_true, true_and, and_false, false_and, or_self, and_self, Bool.false_eq_true, ite_self, n25, n20, n24, n100, RS.gi H, hF.1, nI_leI, hn, r_termOf H W, r_gaugeOf H W.1, e1, e2, oI_n, oI_s, nI_negF, hx2, eq_comm (a := some t), q3, rg27 H, ra27 H, rg28 H, ra28 H, r_farFrom H, q2', hx3, eq_comm (a := some g), q4, l3, q1, lnI, hov]
        · have hov : ovO σ s d a b = false := by unfold ovO; rw [decide_eq_false (Int32.not_le.mpr q2)]; simp
          simp (disch := omega) only [f_X12_line_b56, f_X12_line_b56_body, f_X12_line_b147, f_X12_line_b148, f_X12_line_b201, obs, b10, b01, bm, if_true_, if_false_, eq_self, not_true_eq_false, not_false_eq_true, true_or, or_true, or_false, false_or, and_true, true_and, and_false, false_and, or_self, and_self, Bool.false_eq_true, ite_self, n25, n20, n24, n100, RS.gi H, hF.1, nI_leI, hn, r_termOf H W, r_gaugeOf H W.1, e1, oI_n, oI_s, nI_negF, hx2, eq_comm (a := some t), q3, rg27 H, ra27 H, rg28 H, ra28 H, r_farFrom H, q2, lnI, hov, nI_1]
      · have hov : ovO σ s d a b = false := by simp [ovO, e1, q3]
        simp (disch := omega) only [f_X12_line_b56, f_X12_line_b56_body, f_X12_line_b147, f_X12_line_b148, f_X12_line_b201, obs, b10, b01, bm, if_true_, if_false_, eq_self, not_true_eq_false, not_false_eq_true, true_or, or_true, or_false, false_or, and_true, true_and, and_false, false_and, or_self, and_self, Bool.false_eq_true, ite_self, n25, n20, n24, n100, RS.gi H, hF.1, nI_leI, hn, r_termOf H W, r_gaugeOf H W.1, e1, oI_n, oI_s, nI_negF, hx2, eq_comm (a := some t), q3, lnI, hov, nI_1]
def lnY (σ : SG) (s d : Nat) : Nat × Int32 := itr (lnO σ s d) 0 (cn σ 26) (0, -1)
def lnA (w : Int32) (y : Nat × Int32) : Option Int32 := if w = 0 then some (nI y.1) else if y.2 = -1 then some (-1) else if w = 1 then some (y.2 / 24) else some (y.2 - y.2 / 24 * 24)
theorem r_line (H : RS h σ) (W : WV σ) {s d : Nat} {w : Int32} (hs : s < 16) (hd : d < 199) (hN : 100 < N) : f_X12_line_b41 h N N 100 (nI s) (nI d) w 0 (-1) 0 = lnA w (lnY σ s d) := by
  have hF := W.1.f
  refine (lpA (fun n a (y : Nat × Int32) => f_X12_line_b41 h N n 100 (nI s) (nI d) w (nI y.1) y.2 (nI a)) (lnO σ s d) (cn σ 26) (lnA w) (fun a y => y.1 ≤ 24 * a) ?_ ?_ (cn σ 26) N 0 (0, -1) (by omega) (by omega) (by simp)).1
  · intro n y _
    by_cases q1 : w = 0 <;> by_cases q2 : y.2 = -1 <;> by_cases q3 : w = 1 <;> simp (disch := omega) only [f_X12_line_b41, f_X12_line_b41_body, lnA, obs, b10, b01, bm, if_true_, if_false_, eq_self, not_true_eq_false, not_false_eq_true, true_or, or_true, or_false, false_or, and_true, true_and, and_false, false_and, or_self, and_self, Bool.false_eq_true, ite_self, n25, n20, n24, n100, RS.gi H, hF.1, nI_leI, Nat.le_refl, q1, q2, q3]
  · intro n a y ha hy
    have hn : ¬ cn σ 26 ≤ a := by omega
    obtain ⟨i1, i2⟩ := r_lineI (N := N) H W (w := w) hs hd ha hN (f_X12_line_b41 h N n) hy
    refine ⟨?_, i2⟩
    simp (disch := omega) only [f_X12_line_b41, f_X12_line_b41_body, obs, b10, b01, bm, if_true_, if_false_, eq_self, not_true_eq_false, not_false_eq_true, true_or, or_true, or_false, false_or, and_true, true_and, and_false, false_and, or_self, and_self, Bool.false_eq_true, ite_self, n25, n20, n24, n100, RS.gi H, hF.1, nI_leI, hn, nI_1, i1]
def lnP (σ : SG) (s d a : Nat) : Option Nat := fnd (fun b => ovO σ s d a b = true) (a + 1) (cn σ 26 - (a + 1))
theorem lnI_k {s d a : Nat} {y : Nat × Int32} (hy : 0 < y.1) : ∀ {m i : Nat}, 0 < (itr (lnI σ s d a) i m y).1 ∧ (itr (lnI σ s d a) i m y).2 = y.2 := by
  intro m i
  refine itr_inv (st := lnI σ s d a) (fun _ z => 0 < z.1 ∧ z.2 = y.2) (m := m) (i := i) ⟨hy, rfl⟩ (fun j z _ _ hz => ?_)
  unfold lnI
  by_cases q : ovO σ s d a j = true
  · rw [if_pos q]
    refine ⟨by simp only; omega, ?_⟩
    simp only
    rw [if_neg (by omega)]
    exact hz.2
  · rw [if_neg q]; exact hz
theorem lnI_f {s d a : Nat} : ∀ {m i : Nat}, match fnd (fun b => ovO σ s d a b = true) i m with
    | none => itr (lnI σ s d a) i m (0, -1) = (0, -1)
    | some b => 0 < (itr (lnI σ s d a) i m (0, -1)).1 ∧ (itr (lnI σ s d a) i m (0, -1)).2 = nI (24 * a + b) := by
  intro m
  induction m with
  | zero => intro i; rfl
  | succ m ih =>
    intro i
    unfold fnd
    by_cases q : ovO σ s d a i = true
    · rw [if_pos q]
      show 0 < (itr (lnI σ s d a) (i + 1) m (lnI σ s d a i (0, -1))).1 ∧ (itr (lnI σ s d a) (i + 1) m (lnI σ s d a i (0, -1))).2 = nI (24 * a + i)
      have e : lnI σ s d a i (0, -1) = (1, nI (24 * a + i)) := by unfold lnI; rw [if_pos q]; rfl
      rw [e]
      exact lnI_k (y := (1, nI (24 * a + i))) (by simp)
    · rw [if_neg q]
      have e : itr (lnI σ s d a) i (m + 1) (0, -1) = itr (lnI σ s d a) (i + 1) m (0, -1) := by
        show itr (lnI σ s d a) (i + 1) m (lnI σ s d a i (0, -1)) = _
        have : lnI σ s d a i (0, -1) = (0, -1) := by unfold lnI; rw [if_neg q]
        rw [this]
      rw [e]
      exact ih
theorem lnO_k {s d : Nat} {y : Nat × Int32} (hy : 0 < y.1) : ∀ {m i : Nat}, 0 < (itr (lnO σ s d) i m y).1 ∧ (itr (lnO σ s d) i m y).2 = y.2 := by
  intro m i
  refine itr_inv (st := lnO σ s d) (fun _ z => 0 < z.1 ∧ z.2 = y.2) (m := m) (i := i) ⟨hy, rfl⟩ (fun j z _ _ hz => ?_)
  unfold lnO
  have := lnI_k (σ := σ) (s := s) (d := d) (a := j) hz.1 (m := cn σ 26 - (j + 1)) (i := j + 1)
  exact ⟨this.1, this.2.trans hz.2⟩
theorem lnO_f {s d : Nat} : ∀ {m i : Nat}, match fnd (fun a => (lnP σ s d a).isSome = true) i m with
    | none => itr (lnO σ s d) i m (0, -1) = (0, -1)
    | some a => ∃ b, lnP σ s d a = some b ∧ 0 < (itr (lnO σ s d) i m (0, -1)).1 ∧ (itr (lnO σ s d) i m (0, -1)).2 = nI (24 * a + b) := by
  intro m
  induction m with
  | zero => intro i; rfl
  | succ m ih =>
    intro i
    have key := lnI_f (σ := σ) (s := s) (d := d) (a := i) (m := cn σ 26 - (i + 1)) (i := i + 1)
    unfold fnd
    rcases e : lnP σ s d i with _ | b
    · have e' : fnd (fun b => ovO σ s d i b = true) (i + 1) (cn σ 26 - (i + 1)) = none := e
      rw [e'] at key
      rw [if_neg (by simp)]
      have e2 : itr (lnO σ s d) i (m + 1) (0, -1) = itr (lnO σ s d) (i + 1) m (0, -1) := by
        show itr (lnO σ s d) (i + 1) m (lnO σ s d i (0, -1)) = _
        have : lnO σ s d i (0, -1) = (0, -1) := key
        rw [this]
      rw [e2]
      exact ih
    · have e' : fnd (fun b => ovO σ s d i b = true) (i + 1) (cn σ 26 - (i + 1)) = some b := e
      rw [e'] at key
      rw [if_pos (by simp)]
      have k := lnO_k (σ := σ) (s := s) (d := d) (y := lnO σ s d i (0, -1)) key.1 (m := m) (i := i + 1)
      exact ⟨b, e, k.1, k.2.trans key.2⟩
theorem c_lineI (C : CS h σ tr u) (W : WV σ) {s d a : Nat} (hr : ∀ f, f < cn σ 26 → ai h 29 f = plR σ s f) (ha : a < cn σ 26) (hN : 100 < N) (K : AH → Nat → Int32 → Int32 → Int32 → Int32 → Int32 → Option (Int32 × AH)) {y : Nat × Int32} : f_X11_line_b61 N K N h 1 (nI s) (nI d) 0 (nI y.1) (nI a) (nI (a + 1)) = K h 1 (nI s) (nI d) 0 (nI (lnO σ s d a y).1) (nI (a + 1)) := by
  have hF := W.1.f
  refine (lpA (fun n b (y : Nat × Int32) => f_X11_line_b61 N K n h 1 (nI s) (nI d) 0 (nI y.1) (nI a) (nI b)) (lnI σ s d a) (cn σ 26) (fun y => K h 1 (nI s) (nI d) 0 (nI y.1) (nI (a + 1))) (fun b _ => True) ?_ ?_ (cn σ 26 - (a + 1)) N (a + 1) y (by omega) (by omega) trivial).1
  · intro n y _
    simp (disch := omega) only [f_X11_line_b61, f_X11_line_b61_body, obs, b10, b01, bm, if_true_, if_false_, eq_self, not_true_eq_false, not_false_eq_true, true_or, or_true, or_false, false_or, and_true, true_and, and_false, false_and, or_self, and_self, Bool.false_eq_true, ite_self, n25, n20, n24, n100, kr1_2 C, kz12 C, hF.1, nI_leI, Nat.le_refl, nI_1]
  · intro n b y hb _
    have hn : ¬ cn σ 26 ≤ b := by omega
    have z2 : ((0 : Int32) = 2) = False := by decide
    refine ⟨?_, trivial⟩
    rcases q : ovO σ s d a b <;> simp (disch := first | omega | assumption) only [f_X11_line_b61, f_X11_line_b61_body, f_X11_line_b108, obs, b10, b01, bm, if_true_, if_false_, eq_self, not_true_eq_false, not_false_eq_true, true_or, or_true, or_false, false_or, and_true, true_and, and_false, false_and, or_self, and_self, Bool.false_eq_true, ite_self, n25, n20, n24, n100, kr1_2 C, kz12 C, hF.1, nI_leI, hn, c_isOver C W hr, q, z2, lnI, nI_1]
theorem c_lineF (C : CS h σ tr u) (W : WV σ) {s d a : Nat} {w : Int32} (hw : w = 1 ∨ w = 2) (hr : ∀ f, f < cn σ 26 → ai h 29 f = plR σ s f) (ha : a < cn σ 26) (hN : 100 < N) (K : AH → Nat → Int32 → Int32 → Int32 → Int32 → Int32 → Option (Int32 × AH)) : f_X11_line_b61 N K N h 1 (nI s) (nI d) w 0 (nI a) (nI (a + 1)) = (match lnP σ s d a with
    | none => K h 1 (nI s) (nI d) w 0 (nI (a + 1))
    | some b => some (if w = 1 then nI a else nI b, h)) := by
  have hF := W.1.f
  refine lpF (fun n b => f_X11_line_b61 N K n h 1 (nI s) (nI d) w 0 (nI a) (nI b)) (fun b => ovO σ s d a b = true) (cn σ 26) (fun o => match o with
    | none => K h 1 (nI s) (nI d) w 0 (nI (a + 1))
    | some b => some (if w = 1 then nI a else nI b, h)) ?_ ?_ (m := cn σ 26 - (a + 1)) (by omega) (by omega)
  · intro n
    simp (disch := omega) only [f_X11_line_b61, f_X11_line_b61_body, obs, b10, b01, bm, if_true_, if_false_, eq_self, not_true_eq_false, not_false_eq_true, true_or, or_true, or_false, false_or, and_true, true_and, and_false, false_and, or_self, and_self, Bool.false_eq_true, ite_self, n25, n20, n24, n100, kr1_2 C, kz12 C, hF.1, nI_leI, Nat.le_refl, nI_1]
  · intro n b hb
    have hn : ¬ cn σ 26 ≤ b := by omega
    have z2 : ((2 : Int32) = 1) = False := by decide
    rcases hw with rfl | rfl
    · rcases q : ovO σ s d a b <;> simp (disch := first | omega | assumption) only [f_X11_line_b61, f_X11_line_b61_body, f_X11_line_b108, obs, b10, b01, bm, if_true_, if_false_, eq_self, not_true_eq_false, not_false_eq_true, true_or, or_true, or_false, false_or, and_true, true_and, and_false, false_and, or_self, and_self, Bool.false_eq_true, ite_self, n25, n20, n24, n100, kr1_2 C, kz12 C, hF.1, nI_leI, hn, c_isOver C W hr, q, z2, nI_1]
    · rcases q : ovO σ s d a b <;> simp (disch := first | omega | assumption) only [f_X11_line_b61, f_X11_line_b61_body, f_X11_line_b108, obs, b10, b01, bm, if_true_, if_false_, eq_self, not_true_eq_false, not_false_eq_true, true_or, or_true, or_false, false_or, and_true, true_and, and_false, false_and, or_self, and_self, Bool.false_eq_true, ite_self, n25, n20, n24, n100, kr1_2 C, kz12 C, hF.1, nI_leI, hn, c_isOver C W hr, q, z2, nI_1]
theorem c_line (C : CS h σ tr u) (W : WV σ) {s d : Nat} {w : Int32} (hw : w = 0 ∨ w = 1 ∨ w = 2) (hr : ∀ f, f < cn σ 26 → ai h 29 f = plR σ s f) (hN : 100 < N) : ∃ v, f_X11_line_b43 N N h 1 (nI s) (nI d) w 0 0 = some (v, h) ∧ lnA w (lnY σ s d) = some v := by
  have hF := W.1.f
  rcases hw with rfl | hw
  · refine ⟨nI (lnY σ s d).1, ?_, rfl⟩
    refine lpB (fun n a (y : Nat × Int32) => f_X11_line_b43 N n h 1 (nI s) (nI d) 0 (nI y.1) (nI a)) (lnO σ s d) (cn σ 26) (fun y => some (nI y.1, h)) ?_ ?_ (m := cn σ 26) (i := 0) (a := (0, -1)) (by omega) (by omega)
    · intro n y
      simp (disch := omega) only [f_X11_line_b43, f_X11_line_b43_body, obs, b10, b01, bm, if_true_, if_false_, eq_self, not_true_eq_false, not_false_eq_true, true_or, or_true, or_false, false_or, and_true, true_and, and_false, false_and, or_self, and_self, Bool.false_eq_true, ite_self, n25, n20, n24, n100, kr1_2 C, kz12 C, hF.1, nI_leI, Nat.le_refl]
    · intro n a y ha
      have hn : ¬ cn σ 26 ≤ a := by omega
      simp (disch := omega) only [f_X11_line_b43, f_X11_line_b43_body, obs, b10, b01, bm, if_true_, if_false_, eq_self, not_true_eq_false, not_false_eq_true, true_or, or_true, or_false, false_or, and_true, true_and, and_false, false_and, or_self, and_self, Bool.false_eq_true, ite_self, n25, n20, n24, n100, kr1_2 C, kz12 C, hF.1, nI_leI, hn, nI_1, c_lineI C W hr ha hN (f_X11_line_b43 N n)]
  · have w0 : ¬ w = 0 := by rcases hw with rfl | rfl <;> decide
    have e : f_X11_line_b43 N N h 1 (nI s) (nI d) w 0 (nI 0) = (match fnd (fun a => (lnP σ s d a).isSome = true) 0 (cn σ 26) with
      | none => some (-1, h)
      | some a => some (if w = 1 then nI a else oI (lnP σ s d a), h)) := by
      refine lpF (fun n a => f_X11_line_b43 N n h 1 (nI s) (nI d) w 0 (nI a)) (fun a => (lnP σ s d a).isSome = true) (cn σ 26) (fun o => match o with
        | none => some (-1, h)
        | some a => some (if w = 1 then nI a else oI (lnP σ s d a), h)) ?_ ?_ (m := cn σ 26) (by omega) (by omega)
      · intro n
        simp (disch := omega) only [f_X11_line_b43, f_X11_line_b43_body, obs, b10, b01, bm, if_true_, if_false_, eq_self, not_true_eq_false, not_false_eq_true, true_or, or_true, or_false, false_or, and_true, true_and, and_false, false_and, or_self, and_self, Bool.false_eq_true, ite_self, n25, n20, n24, n100, kr1_2 C, kz12 C, hF.1, nI_leI, Nat.le_refl, w0]
      · intro n a ha
        have hn : ¬ cn σ 26 ≤ a := by omega
        have e1 := c_lineF (N := N) C W (d := d) hw hr ha hN (f_X11_line_b43 N n)
        rcases e2 : lnP σ s d a with _ | b
        · rw [e2] at e1
          simp (disch := omega) only [f_X11_line_b43, f_X11_line_b43_body, obs, b10, b01, bm, if_true_, if_false_, eq_self, not_true_eq_false, not_false_eq_true, true_or, or_true, or_false, false_or, and_true, true_and, and_false, false_and, or_self, and_self, Bool.false_eq_true, ite_self, n25, n20, n24, n100, kr1_2 C, kz12 C, hF.1, nI_leI, hn, nI_1, e1, Option.isSome_none]
        · rw [e2] at e1
          simp (disch := omega) only [f_X11_line_b43, f_X11_line_b43_body, obs, b10, b01, bm, if_true_, if_false_, eq_self, not_true_eq_false, not_false_eq_true, true_or, or_true, or_false, false_or, and_true, true_and, and_false, false_and, or_self, and_self, Bool.false_eq_true, ite_self, n25, n20, n24, n100, kr1_2 C, kz12 C, hF.1, nI_leI, hn, nI_1, e1, e2, Option.isSome_some, oI_s]
    have key := lnO_f (σ := σ) (s := s) (d := d) (m := cn σ 26) (i := 0)
    have e' : f_X11_line_b43 N N h 1 (nI s) (nI d) w 0 0 = _ := e
    rw [e']
    rcases q : fnd (fun a => (lnP σ s d a).isSome = true) 0 (cn σ 26) with _ | a
    · rw [q] at key
      have k2 : lnY σ s d = (0, -1) := key
      refine ⟨-1, rfl, ?_⟩
      rw [k2]
      unfold lnA
      rw [if_neg w0, if_pos rfl]
    · rw [q] at key
      obtain ⟨b, k1, k2, k3⟩ := key
      have ha := (fnd_lt q).1
      have hb := (fnd_lt k1).1
      have k3' : (lnY σ s d).2 = nI (24 * a + b) := k3
      have d1 : nI (24 * a + b) / 24 = nI a := by
        rw [lt24, nI_div (by omega) (by decide)]
        congr 1
        omega
      have d2 : nI (24 * a + b) - nI a * 24 = nI b := by
        rw [lt24, nI_mul, nI_sub (by omega)]
        congr 1
        omega
      refine ⟨_, rfl, ?_⟩
      unfold lnA
      rw [if_neg w0, k3', if_neg (nI_neg (by omega)), d1, d2, k1, oI_s]
      by_cases z : w = 1
      · rw [if_pos z, if_pos z]
      · rw [if_neg z, if_neg z]
theorem pub_line {a b c : Int32} (I : INV L xs h σ tr u n) (hN : 2000 < N) : ∃ v h1, f_X11_line h N 1 a b c = some (v, h1) ∧ f_X12_line h1 N 100 a b c = some v ∧ INV L xs h1 σ tr u n := by
  obtain ⟨C, H, W, X, S, U⟩ := id I
  rcases okC a (n := 16) (by decide) with oa | ⟨oa, s, hs, rfl⟩
  · exact ⟨-1, h, by simp only [f_X11_line, obs, b10, b01, bm, if_true_, if_false_, eq_self, not_true_eq_false, not_false_eq_true, true_or, or_true, or_false, false_or, and_true, true_and, and_false, false_and, or_self, and_self, Bool.false_eq_true, ite_self, n25, n20, n24, n100, kk1 C, RS.kk H, c_isGauge C W.1, c_isTerm C W.1, c_isFarm C W.1, c_isSeason, c_isPlace, r_isGauge H W.1, r_isTerm H W.1, r_isFarm H W.1, r_isSeason, r_isWeek, r_isPlace, r_isSheet, ci1, ri1, ci2, ri2, ci3, ri3, ci4, ri4, ci5, ri5, ci11, ri11, ci16, ri16, ci98, ri98, ci99, ri99, ci198, ri198, ci9999, ri9999, oa], by simp only [f_X12_line, obs, b10, b01, bm, if_true_, if_false_, eq_self, not_true_eq_false, not_false_eq_true, true_or, or_true, or_false, false_or, and_true, true_and, and_false, false_and, or_self, and_self, Bool.false_eq_true, ite_self, n25, n20, n24, n100, kk1 C, RS.kk H, c_isGauge C W.1, c_isTerm C W.1, c_isFarm C W.1, c_isSeason, c_isPlace, r_isGauge H W.1, r_isTerm H W.1, r_isFarm H W.1, r_isSeason, r_isWeek, r_isPlace, r_isSheet, ci1, ri1, ci2, ri2, ci3, ri3, ci4, ri4, ci5, ri5, ci11, ri11, ci16, ri16, ci98, ri98, ci99, ri99, ci198, ri198, ci9999, ri9999, oa], I⟩
  rcases okC c (n := 3) (by decide) with oc | ⟨oc, w, hw, rfl⟩
  · exact ⟨-1, h, by simp only [f_X11_line, obs, b10, b01, bm, if_true_, if_false_, eq_self, not_true_eq_false, not_false_eq_true, true_or, or_true, or_false, false_or, and_true, true_and, and_false, false_and, or_self, and_self, Bool.false_eq_true, ite_self, n25, n20, n24, n100, kk1 C, RS.kk H, c_isGauge C W.1, c_isTerm C W.1, c_isFarm C W.1, c_isSeason, c_isPlace, r_isGauge H W.1, r_isTerm H W.1, r_isFarm H W.1, r_isSeason, r_isWeek, r_isPlace, r_isSheet, ci1, ri1, ci2, ri2, ci3, ri3, ci4, ri4, ci5, ri5, ci11, ri11, ci16, ri16, ci98, ri98, ci99, ri99, ci198, ri198, ci9999, ri9999, oa, oc], by simp only [f_X12_line, obs, b10, b01, bm, if_true_, if_false_, eq_self, not_true_eq_false, not_false_eq_true, true_or, or_true, or_false, false_or, and_true, true_and, and_false, false_and, or_self, and_self, Bool.false_eq_true, ite_self, n25, n20, n24, n100, kk1 C, RS.kk H, c_isGauge C W.1, c_isTerm C W.1, c_isFarm C W.1, c_isSeason, c_isPlace, r_isGauge H W.1, r_isTerm H W.1, r_isFarm H W.1, r_isSeason, r_isWeek, r_isPlace, r_isSheet, ci1, ri1, ci2, ri2, ci3, ri3, ci4, ri4, ci5, ri5, ci11, ri11, ci16, ri16, ci98, ri98, ci99, ri99, ci198, ri198, ci9999, ri9999, oa, oc], I⟩
  rcases okC b (n := 199) (by decide) with ob | ⟨ob, d, hd, rfl⟩
  · exact ⟨-2, h, by simp only [f_X11_line, obs, b10, b01, bm, if_true_, if_false_, eq_self, not_true_eq_false, not_false_eq_true, true_or, or_true, or_false, false_or, and_true, true_and, and_false, false_and, or_self, and_self, Bool.false_eq_true, ite_self, n25, n20, n24, n100, kk1 C, RS.kk H, c_isGauge C W.1, c_isTerm C W.1, c_isFarm C W.1, c_isSeason, c_isPlace, r_isGauge H W.1, r_isTerm H W.1, r_isFarm H W.1, r_isSeason, r_isWeek, r_isPlace, r_isSheet, ci1, ri1, ci2, ri2, ci3, ri3, ci4, ri4, ci5, ri5, ci11, ri11, ci16, ri16, ci98, ri98, ci99, ri99, ci198, ri198, ci9999, ri9999, oa, oc, ob], by simp only [f_X12_line, obs, b10, b01, bm, if_true_, if_false_, eq_self, not_true_eq_false, not_false_eq_true, true_or, or_true, or_false, false_or, and_true, true_and, and_false, false_and, or_self, and_self, Bool.false_eq_true, ite_self, n25, n20, n24, n100, kk1 C, RS.kk H, c_isGauge C W.1, c_isTerm C W.1, c_isFarm C W.1, c_isSeason, c_isPlace, r_isGauge H W.1, r_isTerm H W.1, r_isFarm H W.1, r_isSeason, r_isWeek, r_isPlace, r_isSheet, ci1, ri1, ci2, ri2, ci3, ri3, ci4, ri4, ci5, ri5, ci11, ri11, ci16, ri16, ci98, ri98, ci99, ri99, ci198, ri198, ci9999, ri9999, oa, oc, ob], I⟩
  obtain ⟨h1, e1, S1, hr⟩ := c_gatherCP (N := N) C W hs (by omega)
  have I' := I.scr S1
  have H' := I'.2.1
  have hw3 : nI w = 0 ∨ nI w = 1 ∨ nI w = 2 := by
    have : w = 0 ∨ w = 1 ∨ w = 2 := by omega
    rcases this with rfl | rfl | rfl
    · exact Or.inl il0
    · exact Or.inr (Or.inl il1)
    · exact Or.inr (Or.inr il2)
  obtain ⟨v, v1, v2⟩ := c_line (N := N) I'.1 W (d := d) hw3 hr (by omega)
  have r1 := r_line (N := N) H' W (w := nI w) hs hd (by omega)
  rw [v2] at r1
  refine ⟨v, h1, ?_, ?_, I'⟩
  · simp only [f_X11_line, obs, b10, b01, bm, if_true_, if_false_, eq_self, not_true_eq_false, not_false_eq_true, true_or, or_true, or_false, false_or, and_true, true_and, and_false, false_and, or_self, and_self, Bool.false_eq_true, ite_self, n25, n20, n24, n100, kk1 C, RS.kk H, c_isGauge C W.1, c_isTerm C W.1, c_isFarm C W.1, c_isSeason, c_isPlace, r_isGauge H W.1, r_isTerm H W.1, r_isFarm H W.1, r_isSeason, r_isWeek, r_isPlace, r_isSheet, ci1, ri1, ci2, ri2, ci3, ri3, ci4, ri4, ci5, ri5, ci11, ri11, ci16, ri16, ci98, ri98, ci99, ri99, ci198, ri198, ci9999, ri9999, oa, oc, ob, e1, v1]
  · simp only [f_X12_line, obs, b10, b01, bm, if_true_, if_false_, eq_self, not_true_eq_false, not_false_eq_true, true_or, or_true, or_false, false_or, and_true, true_and, and_false, false_and, or_self, and_self, Bool.false_eq_true, ite_self, n25, n20, n24, n100, RS.kk H', r_isSeason, ri2, ri198, oa, oc, ob, r1]
end
