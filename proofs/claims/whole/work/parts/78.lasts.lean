/-! ===== public: lasts ===== -/
section
variable {L N : Nat} {xs : Nat → Int32} {h h' : AH} {σ σ' : SG} {tr : Nat → Nat} {u n : Nat}
def bI : Bool → Int32
  | false => 0
  | true => 1
theorem bI_f : bI false = 0 := rfl
theorem bI_t : bI true = 1 := rfl
def kY (σ : SG) (A B : Nat → Int32) : SG := (σ.1, fun k => if k = 74 then A else if k = 75 then B else σ.2 k)
theorem kY_self (H : RS h σ) : RS h (kY σ (σ.2 74) (σ.2 75)) := by
  refine H.cg (fun _ => rfl) (fun k _ j => ?_)
  show (if k = 74 then σ.2 74 else if k = 75 then σ.2 75 else σ.2 k) j = σ.2 k j
  by_cases e : k = 74
  · subst e; rfl
  · rw [if_neg e]
    by_cases e2 : k = 75
    · subst e2; rfl
    · rw [if_neg e2]
theorem kY_74 {A B : Nat → Int32} {n : Nat} {x : Int32} (H : RS h (kY σ A B)) : RS (sai h 174 n x) (kY σ (va_up A n x) B) := by
  refine (H.ai 74 n x).cg (fun _ => rfl) (fun k _ j => ?_)
  rw [s2_ite]
  show (if k = 74 then va_up A n x else if k = 75 then B else σ.2 k) j = _
  by_cases e : k = 74
  · subst e
    show (if j = n then x else A j) = _
    by_cases e2 : j = n
    · rw [if_pos e2, if_pos ⟨rfl, e2⟩]
    · rw [if_neg e2, if_neg (fun q => e2 q.2)]; rfl
  · rw [if_neg (show ¬ (k = 74 ∧ j = n) from fun q => e q.1)]
    show _ = (if k = 74 then A else if k = 75 then B else σ.2 k) j
    rw [if_neg e, if_neg e]
theorem kY_75 {A B : Nat → Int32} {n : Nat} {x : Int32} (H : RS h (kY σ A B)) : RS (sai h 175 n x) (kY σ A (va_up B n x)) := by
  refine (H.ai 75 n x).cg (fun _ => rfl) (fun k _ j => ?_)
  rw [s2_ite]
  show (if k = 74 then A else if k = 75 then va_up B n x else σ.2 k) j = _
  by_cases e : k = 75
  · subst e
    show (if j = n then x else B j) = _
    by_cases e2 : j = n
    · rw [if_pos e2, if_pos ⟨rfl, e2⟩]
    · rw [if_neg e2, if_neg (fun q => e2 q.2)]; rfl
  · rw [if_neg (show ¬ (k = 75 ∧ j = n) from fun q => e q.1)]
    show _ = (if k = 74 then A else if k = 75 then B else σ.2 k) j
    rw [if_neg e, if_neg e]
theorem kY_sge {A B : Nat → Int32} : SGE σ (kY σ A B) := by
  refine ⟨fun _ _ => rfl, fun k hk h1 h2 => ?_⟩
  show (if k = 74 then A else if k = 75 then B else σ.2 k) = σ.2 k
  rw [if_neg (by omega), if_neg (by omega)]
theorem kY_W {A B : Nat → Int32} (W : WV σ) : WV (kY σ A B) := W.sg kY_sge (fun _ _ => rfl) (fun _ _ => rfl) W.2.2.2.2.1.2.2
theorem s1_s1 {k : Nat} {x y : Int32} : s1 (s1 σ k x) k y = s1 σ k y := by
  refine Prod.ext ?_ rfl
  funext a
  show (if a = k then y else if a = k then x else σ.1 a) = if a = k then y else σ.1 a
  by_cases e : a = k
  · rw [if_pos e, if_pos e]
  · rw [if_neg e, if_neg e, if_neg e]
theorem s1_self {k : Nat} : s1 σ k (σ.1 k) = σ := by
  refine Prod.ext ?_ rfl
  funext a
  show (if a = k then σ.1 k else σ.1 a) = σ.1 a
  by_cases e : a = k
  · rw [if_pos e, e]
  · rw [if_neg e]
theorem vK_sg (S : SGE σ σ') (k : Nat) : vK σ' k = vK σ k := by
  funext c
  unfold vK
  rw [S.cn (by decide), S.vAt]
theorem R0_sg (S : SGE σ σ') : R0 σ' = R0 σ := by
  show vK σ' (cn σ' 7) = vK σ (cn σ 7)
  rw [S.cn (by decide), vK_sg S]
theorem G0_sg (S : SGE σ σ') : G0 σ' = G0 σ := by
  funext c
  show vK σ' (cn σ' 7) (1536 + c) = vK σ (cn σ 7) (1536 + c)
  rw [S.cn (by decide), vK_sg S]
theorem knowO_sg (S : SGE σ σ') (g s : Nat) : knowO σ' g s = knowO σ g s := by
  have : knS σ' g s = knS σ g s := by
    funext w x
    unfold knS
    rw [R0_sg S]
  unfold knowO
  rw [this]
section
variable {A B : Nat → Int32}
theorem kY_payN {g t p k s : Nat} : payN (kY σ A B) g t p k s = payN σ g t p k s := by
  unfold payN
  rw [R0_sg (σ' := kY σ A B) kY_sge, G0_sg (σ' := kY σ A B) kY_sge]
  rfl
theorem kY_knN {g : Nat} : knN (kY σ A B) g = knN σ g := by
  have : knC (kY σ A B) g = knC σ g := by
    funext s x
    unfold knC
    rw [knowO_sg (σ' := kY σ A B) kY_sge]
  unfold knN
  rw [this]
theorem kY_paidN {g t p k : Nat} : paidN (kY σ A B) g t p k = paidN σ g t p k := by
  have : pdC (kY σ A B) g t p k = pdC σ g t p k := by
    funext s x
    unfold pdC
    rw [knowO_sg (σ' := kY σ A B) kY_sge, kY_payN]
  unfold paidN
  rw [this]
theorem kY_prN {g t p k : Nat} : prN (kY σ A B) g t p k = prN σ g t p k := by
  unfold prN
  rw [kY_knN, kY_paidN]
  rfl
theorem kY_termO {f : Nat} {s : Int32} : termO (kY σ A B) f s = termO σ f s := rfl
theorem kY_gaugeOf {f : Nat} {s : Int32} : gaugeOf (kY σ A B) f s = gaugeOf σ f s := rfl
theorem kY_plantO {f : Nat} : plantO (kY σ A B) f = plantO σ f := rfl
theorem kY_cropO {f : Nat} : cropO (kY σ A B) f = cropO σ f := rfl
theorem kY_30 {f : Nat} : (kY σ A B).2 30 f = σ.2 30 f := rfl
theorem kY_totalO {s q : Nat} : totalO (kY σ A B) s q = totalO σ s q := by
  have : totS (kY σ A B) s q = totS σ s q := by
    funext f x
    unfold totS
    rw [kY_termO, kY_gaugeOf]
    rcases termO σ f (nI q) with _ | t
    · rfl
    · rcases gaugeOf σ f (nI q) with _ | g
      · rfl
      · simp only []
        rw [kY_payN, kY_plantO, kY_cropO, kY_30]
  unfold totalO
  rw [this]
  rfl
theorem kY_incomeO {q : Nat} : incomeO (kY σ A B) q = incomeO σ q := by
  have : incS (kY σ A B) q = incS σ q := by
    funext f x
    unfold incS
    rw [kY_termO, kY_gaugeOf]
    rcases termO σ f (nI q) with _ | t
    · rfl
    · rcases gaugeOf σ f (nI q) with _ | g
      · rfl
      · simp only []
        rw [kY_prN, kY_plantO, kY_cropO, kY_30]
  unfold incomeO
  rw [this]
  rfl
end
def yrS (σ : SG) (q s g : Nat) (x : Bool × Bool) : Bool × Bool := if nI q < σ.2 3 g ∨ σ.2 4 g ≤ nI q then x else (x.1 && knowO σ g s, true)
def yrX (σ : SG) (q s : Nat) : Bool × Bool := itr (yrS σ q s) 0 (cn σ 0) (true, false)
def yrO (σ : SG) (q s : Nat) : Bool := (yrX σ q s).1 && (yrX σ q s).2
theorem yr_f {q s : Nat} {b : Bool} : ∀ {m i : Nat}, (itr (yrS σ q s) i m (false, b)).1 = false := by
  intro m i
  refine itr_inv (st := yrS σ q s) (fun _ (x : Bool × Bool) => x.1 = false) (m := m) (i := i) rfl (fun j x _ _ hx => ?_)
  unfold yrS
  split
  · exact hx
  · simp only [hx, Bool.false_and]
theorem c_isYear (C : CS h σ tr u) (W : WV σ) {q s : Nat} (hs : s < 16) (hN : 1000 < N) : f_X11_isYear h N 1 (nI s) (nI q) = some (if yrO σ q s then 1 else 0) := by
  have hG := W.1.g
  have key : ∀ m n i b, i + m = cn σ 0 → m < n → f_X11_isYear_b5 h N n 1 (nI s) (nI q) (bI b) (nI i) = some (if ((itr (yrS σ q s) i m (true, b)).1 && (itr (yrS σ q s) i m (true, b)).2) then 1 else 0) := by
    intro m
    induction m with
    | zero =>
      intro n i b he hn
      obtain ⟨n, rfl⟩ : ∃ k, n = k + 1 := ⟨n - 1, by omega⟩
      have : i = cn σ 0 := by omega
      subst this
      cases b <;> simp (disch := omega) only [f_X11_isYear_b5, f_X11_isYear_b5_body, obs, b10, b01, bm, if_true_, if_false_, eq_self, not_true_eq_false, not_false_eq_true, true_or, or_true, or_false, false_or, and_true, true_and, and_false, false_and, or_self, and_self, Bool.false_eq_true, ite_self, n25, n20, n24, n100, decide_true, decide_false, Bool.not_true, Bool.not_false, Bool.and_true, Bool.and_false, Bool.true_and, Bool.false_and, kr1_0 C, kz10 C, hG.1, nI_leI, Nat.le_refl, bI_f, bI_t, itr]
    | succ m ih =>
      intro n i b he hn
      obtain ⟨n, rfl⟩ : ∃ k, n = k + 1 := ⟨n - 1, by omega⟩
      have hn2 : ¬ cn σ 0 ≤ i := by omega
      by_cases z : nI q < σ.2 3 i ∨ σ.2 4 i ≤ nI q
      · have e : itr (yrS σ q s) i (m + 1) (true, b) = itr (yrS σ q s) (i + 1) m (true, b) := by
          show itr (yrS σ q s) (i + 1) m (yrS σ q s i (true, b)) = _
          have : yrS σ q s i (true, b) = (true, b) := by unfold yrS; rw [if_pos z]
          rw [this]
        rw [e, ← ih n (i + 1) b (by omega) (by omega)]
        simp (disch := omega) only [f_X11_isYear_b5, f_X11_isYear_b5_body, f_X11_isYear_b53, obs, b10, b01, bm, if_true_, if_false_, eq_self, not_true_eq_false, not_false_eq_true, true_or, or_true, or_false, false_or, and_true, true_and, and_false, false_and, or_self, and_self, Bool.false_eq_true, ite_self, n25, n20, n24, n100, kr1_0 C, kz10 C, hG.1, nI_leI, hn2, kg10 C W.1, kc200 C, c_standsIn C, z, nI_1]
      · rcases y : knowO σ i s
        · have e : (itr (yrS σ q s) i (m + 1) (true, b)).1 = false := by
            show (itr (yrS σ q s) (i + 1) m (yrS σ q s i (true, b))).1 = false
            have : yrS σ q s i (true, b) = (false, true) := by unfold yrS; rw [if_neg z, y]; rfl
            rw [this]
            exact yr_f
          rw [e]
          simp (disch := omega) only [f_X11_isYear_b5, f_X11_isYear_b5_body, f_X11_isYear_b53, obs, b10, b01, bm, if_true_, if_false_, eq_self, not_true_eq_false, not_false_eq_true, true_or, or_true, or_false, false_or, and_true, true_and, and_false, false_and, or_self, and_self, Bool.false_eq_true, ite_self, n25, n20, n24, n100, decide_true, decide_false, Bool.not_true, Bool.not_false, Bool.and_true, Bool.and_false, Bool.true_and, Bool.false_and, kr1_0 C, kz10 C, hG.1, nI_leI, hn2, kg10 C W.1, kc200 C, c_standsIn C, z, c_isKnown C W, y]
        · have e : itr (yrS σ q s) i (m + 1) (true, b) = itr (yrS σ q s) (i + 1) m (true, true) := by
            show itr (yrS σ q s) (i + 1) m (yrS σ q s i (true, b)) = _
            have : yrS σ q s i (true, b) = (true, true) := by unfold yrS; rw [if_neg z, y]; rfl
            rw [this]
          rw [e, ← ih n (i + 1) true (by omega) (by omega)]
          simp (disch := omega) only [f_X11_isYear_b5, f_X11_isYear_b5_body, f_X11_isYear_b53, obs, b10, b01, bm, if_true_, if_false_, eq_self, not_true_eq_false, not_false_eq_true, true_or, or_true, or_false, false_or, and_true, true_and, and_false, false_and, or_self, and_self, Bool.false_eq_true, ite_self, n25, n20, n24, n100, kr1_0 C, kz10 C, hG.1, nI_leI, hn2, kg10 C W.1, kc200 C, c_standsIn C, z, c_isKnown C W, y, bI_t, nI_1]
  unfold f_X11_isYear
  rw [if_pos (kk1 C)]
  exact key (cn σ 0) N 0 false (by omega) (by omega)
def yS (σ : SG) (q s : Nat) (x : Nat × (Nat → Nat)) : Nat × (Nat → Nat) := if yrO σ q s then (x.1 + 1, va_up x.2 x.1 s) else x
def yX (σ : SG) (q : Nat) : Nat × (Nat → Nat) := itr (yS σ q) 0 16 (0, fun _ => 0)
theorem yX_ok {q : Nat} : (yX σ q).1 ≤ 16 ∧ ∀ j, j < (yX σ q).1 → (yX σ q).2 j < 16 := by
  have := itr_inv (st := yS σ q) (fun i (x : Nat × (Nat → Nat)) => x.1 ≤ i ∧ ∀ j, j < x.1 → x.2 j < 16) (m := 16) (i := 0) (a := (0, fun _ => 0)) ⟨Nat.le_refl 0, fun j hj => by simp at hj⟩ (fun s x _ hs hx => by
    unfold yS
    by_cases y : yrO σ q s = true
    · rw [if_pos y]
      refine ⟨by simp only; omega, fun j hj => ?_⟩
      simp only at hj ⊢
      show (if j = x.1 then s else x.2 j) < 16
      by_cases e : j = x.1
      · rw [if_pos e]; omega
      · rw [if_neg e]; exact hx.2 j (by omega)
    · rw [if_neg y]; exact ⟨by omega, hx.2⟩)
  exact this
theorem c_gatherT (C : CS h σ tr u) (W : WV σ) {q : Nat} (hq : q < 16) (hN : 1000 < N) : ∃ h', f_X11_gatherTotals h N 1 (nI q) = some (nI (yX σ q).1, h') ∧ SCR h h' ∧ ∀ j, j < (yX σ q).1 → ai h' 28 j = totalO σ ((yX σ q).2 j) q := by
  unfold f_X11_gatherTotals
  rw [if_pos (kk1 C)]
  refine (lpS (σ := AH) (α := Nat × (Nat → Nat)) (fun n i h x => f_X11_gatherTotals_b4 N n h 1 (nI q) (nI x.1) (nI i)) (yS σ q) 16 (fun h' x => some (nI x.1, h')) (fun i h' x => SCR h h' ∧ x.1 ≤ i ∧ ∀ j, j < x.1 → ai h' 28 j = totalO σ (x.2 j) q) ?_ ?_ 16 N 0 h (0, fun _ => 0) (by omega) (by omega) ⟨SCR.refl, Nat.le_refl 0, fun j hj => by simp at hj⟩).elim (fun h' e => ⟨h', e.1, e.2.1, e.2.2.2⟩)
  · intro n h' x _
    simp (disch := omega) only [f_X11_gatherTotals_b4, f_X11_gatherTotals_b4_body, obs, b10, b01, bm, if_true_, if_false_, eq_self, not_true_eq_false, not_false_eq_true, true_or, or_true, or_false, false_or, and_true, true_and, and_false, false_and, or_self, and_self, Bool.false_eq_true, ite_self, n25, n20, n24, n100, lt16, nI_leI, Nat.le_refl]
  · intro n i h' x hi ⟨S, hx, hw⟩
    have C' := C.scr S
    have hn : ¬ 16 ≤ i := by omega
    rcases y : yrO σ q i
    · refine ⟨h', ?_, S, ?_, ?_⟩
      · simp (disch := omega) only [f_X11_gatherTotals_b4, f_X11_gatherTotals_b4_body, f_X11_gatherTotals_b37, obs, b10, b01, bm, if_true_, if_false_, eq_self, not_true_eq_false, not_false_eq_true, true_or, or_true, or_false, false_or, and_true, true_and, and_false, false_and, or_self, and_self, Bool.false_eq_true, ite_self, n25, n20, n24, n100, lt16, nI_leI, hn, c_isYear C' W, y, yS, nI_1]
      · unfold yS; rw [y]; simp only [Bool.false_eq_true, if_false_]; omega
      · unfold yS; rw [y]; simp only [Bool.false_eq_true, if_false_]; exact hw
    · obtain ⟨h2, e2, S2, S8⟩ := c_totalOf (N := N) C' W hi hq hN
      have C2 := C'.scr S2
      have x1 : xis h2 28 (nI x.1) (totalO σ i q) = some (sai h2 28 x.1 (totalO σ i q)) := xis_of (kk28 C2) (kl C2 (by decide)) (show x.1 < 16 by omega) (by decide)
      refine ⟨sai h2 28 x.1 (totalO σ i q), ?_, (S.trans S2).trans (SCR.w (by omega) (by omega)), ?_, ?_⟩
      · simp (disch := omega) only [f_X11_gatherTotals_b4, f_X11_gatherTotals_b4_body, f_X11_gatherTotals_b37, obs, b10, b01, bm, if_true_, if_false_, eq_self, not_true_eq_false, not_false_eq_true, true_or, or_true, or_false, false_or, and_true, true_and, and_false, false_and, or_self, and_self, Bool.false_eq_true, ite_self, n25, n20, n24, n100, lt16, nI_leI, hn, c_isYear C' W, y, kr1_18 C', e2, x1, yS, nI_1]
      · unfold yS; rw [y]; simp only [if_true_, eq_self]; omega
      · unfold yS; rw [y]
        simp only [if_true_, eq_self]
        intro j hj
        show _ = totalO σ (if j = x.1 then i else x.2 j) q
        rw [ai_sai]
        by_cases e : j = x.1
        · rw [if_pos ⟨rfl, e⟩, if_pos e]
        · rw [if_neg (fun z => e z.2), if_neg e, S8]; exact hw j (by omega)
theorem yrO_sg (S : SGE σ σ') (q s : Nat) : yrO σ' q s = yrO σ q s := by
  have : yrS σ' q s = yrS σ q s := by
    funext g x
    unfold yrS
    rw [knowO_sg S, S.2 3 (by decide) (by decide) (by decide), S.2 4 (by decide) (by decide) (by decide)]
  unfold yrO yrX
  rw [this, S.cn (by decide)]
theorem r_yearI (H : RS h σ) (W : WV σ) {q s c : Nat} (hs : s < 16) (hc : c < 16) (hN : 100 < N) (K : AH → Nat → Int32 → Int32 → Int32 → Option (Int32 × AH)) : f_X12_years_b19 N K N h 100 (nI q) (nI c) (nI s) 1 0 0 = (if yrO σ q s then K (sai h 174 c (nI s)) 100 (nI q) (nI (c + 1)) (nI (s + 1)) else K h 100 (nI q) (nI c) (nI (s + 1))) := by
  have hG := W.1.g
  have e := lpB (fun n g (x : Bool × Bool) => f_X12_years_b19 N K n h 100 (nI q) (nI c) (nI s) (bI x.1) (bI x.2) (nI g)) (yrS σ q s) (cn σ 0) (fun x => f_X12_years_b19 N K 1 h 100 (nI q) (nI c) (nI s) (bI x.1) (bI x.2) (nI (cn σ 0))) ?_ ?_ (m := cn σ 0) (N := N) (i := 0) (a := (true, false)) (by omega) (by omega)
  · have e' : f_X12_years_b19 N K N h 100 (nI q) (nI c) (nI s) 1 0 0 = f_X12_years_b19 N K 1 h 100 (nI q) (nI c) (nI s) (bI (yrX σ q s).1) (bI (yrX σ q s).2) (nI (cn σ 0)) := e
    rw [e']
    unfold yrO
    have w1 := rw74 H (n := c) (x := nI s) hc
    rcases yrX σ q s with ⟨a, b⟩
    cases a <;> cases b <;> simp (disch := omega) only [f_X12_years_b19, f_X12_years_b19_body, f_X12_years_b108, obs, b10, b01, bm, if_true_, if_false_, eq_self, not_true_eq_false, not_false_eq_true, true_or, or_true, or_false, false_or, and_true, true_and, and_false, false_and, or_self, and_self, Bool.false_eq_true, ite_self, n25, n20, n24, n100, decide_true, decide_false, Bool.not_true, Bool.not_false, Bool.and_true, Bool.and_false, Bool.true_and, Bool.false_and, RS.gi H, hG.1, nI_leI, Nat.le_refl, bI_f, bI_t, rg74 H, w1.1, nI_1]
  · intro n x
    rcases x with ⟨a, b⟩
    cases a <;> cases b <;> simp (disch := omega) only [f_X12_years_b19, f_X12_years_b19_body, f_X12_years_b108, obs, b10, b01, bm, if_true_, if_false_, eq_self, not_true_eq_false, not_false_eq_true, true_or, or_true, or_false, false_or, and_true, true_and, and_false, false_and, or_self, and_self, Bool.false_eq_true, ite_self, n25, n20, n24, n100, RS.gi H, hG.1, nI_leI, Nat.le_refl, bI_f, bI_t]
  · intro n g x hg
    have hn : ¬ cn σ 0 ≤ g := by omega
    rcases x with ⟨a, b⟩
    by_cases z : nI q < σ.2 3 g ∨ σ.2 4 g ≤ nI q
    · cases a <;> cases b <;> simp (disch := omega) only [f_X12_years_b19, f_X12_years_b19_body, f_X12_years_b43, f_X12_years_b48, f_X12_years_b75, f_X12_years_b79, f_X12_years_b80, obs, b10, b01, bm, if_true_, if_false_, eq_self, not_true_eq_false, not_false_eq_true, true_or, or_true, or_false, false_or, and_true, true_and, and_false, false_and, or_self, and_self, Bool.false_eq_true, ite_self, n25, n20, n24, n100, RS.gi H, hG.1, nI_leI, hn, bI_f, bI_t, r_stands H, z, yrS, nI_1]
    · rcases y : knowO σ g s <;> cases a <;> cases b <;> simp (disch := omega) only [f_X12_years_b19, f_X12_years_b19_body, f_X12_years_b43, f_X12_years_b48, f_X12_years_b75, f_X12_years_b79, f_X12_years_b80, obs, b10, b01, bm, if_true_, if_false_, eq_self, not_true_eq_false, not_false_eq_true, true_or, or_true, or_false, false_or, and_true, true_and, and_false, false_and, or_self, and_self, Bool.false_eq_true, ite_self, n25, n20, n24, n100, decide_true, decide_false, Bool.not_true, Bool.not_false, Bool.and_true, Bool.and_false, Bool.true_and, Bool.false_and, RS.gi H, hG.1, nI_leI, hn, bI_f, bI_t, r_stands H, z, r_isKnown H W, y, yrS, nI_1]
theorem r_years (H : RS h σ) (W : WV σ) {q : Nat} (hN : 100 < N) : ∃ h' A, f_X12_years h N 100 (nI q) = some (nI (yX σ q).1, h') ∧ FRc h h' ∧ RS h' (kY σ A (σ.2 75)) ∧ ∀ j, j < (yX σ q).1 → A j = nI ((yX σ q).2 j) := by
  unfold f_X12_years
  rw [if_pos H.1]
  refine (lpS (σ := AH) (α := Nat × (Nat → Nat)) (fun n i h x => f_X12_years_b4 N n h 100 (nI q) (nI x.1) (nI i)) (yS σ q) 16 (fun h' x => some (nI x.1, h')) (fun i h' x => FRc h h' ∧ x.1 ≤ i ∧ ∃ A, RS h' (kY σ A (σ.2 75)) ∧ ∀ j, j < x.1 → A j = nI (x.2 j)) ?_ ?_ 16 N 0 h (0, fun _ => 0) (by omega) (by omega) ⟨FRc.refl, Nat.le_refl 0, _, kY_self H, fun j hj => by simp at hj⟩).elim (fun h' e => ?_)
  · intro n h' x _
    simp (disch := omega) only [f_X12_years_b4, f_X12_years_b4_body, obs, b10, b01, bm, if_true_, if_false_, eq_self, not_true_eq_false, not_false_eq_true, true_or, or_true, or_false, false_or, and_true, true_and, and_false, false_and, or_self, and_self, Bool.false_eq_true, ite_self, n25, n20, n24, n100, lt16, nI_leI, Nat.le_refl]
  · intro n i h' x hi ⟨F, hx, A, H', hA⟩
    have hn : ¬ 16 ≤ i := by omega
    have yi := r_yearI (N := N) H' (kY_W W) (q := q) (s := i) (c := x.1) hi (by omega) hN (f_X12_years_b4 N n)
    have ye : yrO (kY σ A (σ.2 75)) q i = yrO σ q i := yrO_sg kY_sge q i
    rw [ye] at yi
    rcases y : yrO σ q i
    · rw [y] at yi
      refine ⟨h', ?_, F, ?_, A, H', ?_⟩
      · simp (disch := omega) only [f_X12_years_b4, f_X12_years_b4_body, obs, b10, b01, bm, if_true_, if_false_, eq_self, not_true_eq_false, not_false_eq_true, true_or, or_true, or_false, false_or, and_true, true_and, and_false, false_and, or_self, and_self, Bool.false_eq_true, ite_self, n25, n20, n24, n100, lt16, nI_leI, hn, yi, yS, y]
      · unfold yS; rw [y]; simp only [Bool.false_eq_true, if_false_]; omega
      · unfold yS; rw [y]; simp only [Bool.false_eq_true, if_false_]; exact hA
    · rw [y] at yi
      refine ⟨sai h' 174 x.1 (nI i), ?_, F.trans (FRc.a (by omega) (by omega)), ?_, _, kY_74 H', ?_⟩
      · simp (disch := omega) only [f_X12_years_b4, f_X12_years_b4_body, obs, b10, b01, bm, if_true_, if_false_, eq_self, not_true_eq_false, not_false_eq_true, true_or, or_true, or_false, false_or, and_true, true_and, and_false, false_and, or_self, and_self, Bool.false_eq_true, ite_self, n25, n20, n24, n100, lt16, nI_leI, hn, yi, yS, y]
      · unfold yS; rw [y]; simp only [if_true_, eq_self]; omega
      · unfold yS; rw [y]
        simp only [if_true_, eq_self]
        intro j hj
        show (if j = x.1 then nI i else A j) = nI (if j = x.1 then i else x.2 j)
        by_cases e : j = x.1
        · rw [if_pos e, if_pos e]
        · rw [if_neg e, if_neg e]; exact hA j (by omega)
  · obtain ⟨e1, e2, e3, A, e4, e5⟩ := e
    exact ⟨h', A, e1, e2, e4, e5⟩
/-! throws -/
def thr (z : Int32) : Int32 := z * 1103515245 + 12345
def ixN (z : Int32) (m : Nat) : Nat := (z.toUInt32 >>> ((8 : Int32).toUInt32 &&& Int32.toUInt32 31)).toNat % m
theorem ix_eq {z : Int32} {m : Nat} (h0 : 0 < m) (hm : m < 100) : (((z.toUInt32 >>> ((8 : Int32).toUInt32 &&& Int32.toUInt32 31)).toInt32) - (((z.toUInt32 >>> ((8 : Int32).toUInt32 &&& Int32.toUInt32 31)).toInt32) / nI m * nI m)) = nI (ixN z m) := by
  have hk : (z.toUInt32 >>> ((8 : Int32).toUInt32 &&& Int32.toUInt32 31)).toNat < 2 ^ 24 := by
    rw [show ((8 : Int32).toUInt32 &&& Int32.toUInt32 31) = 8 by decide, UInt32.toNat_shiftRight, show (8 : UInt32).toNat % 32 = 8 by decide, Nat.shiftRight_eq_div_pow]
    have := z.toUInt32.toNat_lt
    omega
  have he : (z.toUInt32 >>> ((8 : Int32).toUInt32 &&& Int32.toUInt32 31)).toInt32 = nI ((z.toUInt32 >>> ((8 : Int32).toUInt32 &&& Int32.toUInt32 31)).toNat) := by
    generalize z.toUInt32 >>> ((8 : Int32).toUInt32 &&& Int32.toUInt32 31) = y at hk
    apply Int32.toBitVec_inj.mp
    show y.toBitVec = BitVec.ofNat 32 y.toNat
    apply BitVec.eq_of_toNat_eq
    rw [BitVec.toNat_ofNat]
    exact (Nat.mod_eq_of_lt y.toNat_lt).symm
  unfold ixN
  rw [he]
  generalize (z.toUInt32 >>> ((8 : Int32).toUInt32 &&& Int32.toUInt32 31)).toNat = k at hk
  have h1 : k / m * m ≤ k := Nat.div_mul_le_self k m
  rw [nI_div (by omega) (by omega), nI_mul, nI_sub h1]
  congr 1
  have h2 := Nat.div_add_mod k m
  rw [Nat.mul_comm] at h2
  omega
def rlS (T : Nat → Int32) (inc : Int32) (m : Nat) (_ : Nat) (x : Int32 × Int64 × Bool) : Int32 × Int64 × Bool := (thr x.1, x.2.1 + (inc - T (ixN (thr x.1) m)).toInt64, x.2.2 && decide (0 ≤ lg_cmp (x.2.1 + (inc - T (ixN (thr x.1) m)).toInt64) 0))
def rlX (T : Nat → Int32) (inc : Int32) (m n : Nat) (res : Int64) (z : Int32) : Int32 × Int64 × Bool := itr (rlS T inc m) 0 n (z, res, true)
def lsS (T : Nat → Int32) (inc : Int32) (m n : Nat) (res : Int64) (_ : Nat) (x : Int32 × Int32) : Int32 × Int32 := ((rlX T inc m n res x.1).1, if (rlX T inc m n res x.1).2.2 then x.2 + 1 else x.2)
/-- the class's world while it throws -/
def CZ (h0 : AH) (σ : SG) (tr : Nat → Nat) (u m : Nat) (T : Nat → Int32) (h : AH) (z : Int32) : Prop := CS h (s1 σ 61 z) tr u ∧ RS h σ ∧ (∀ j, j < m → ai h 28 j = T j) ∧ (kd h 9000 = kd h0 9000 ∧ ln h 9000 = ln h0 9000 ∧ ai h 9000 = ai h0 9000)
theorem CZ.st {h0 : AH} {m : Nat} {T : Nat → Int32} {z z' : Int32} (Z : CZ h0 σ tr u m T h z) (W : WV σ) : xpi h 1 12 14 z' = some (sfi h 1 14 z') ∧ CZ h0 σ tr u m T (sfi h 1 14 z') z' := by
  obtain ⟨C, H, hT, e⟩ := Z
  have W1 : WV (s1 σ 61 z) := W.of (vs1_s1 (by decide)) (fun _ _ => rfl) (W.2.1.w1 (by decide)) W.2.2.1
  have C1 : CS (sfi h 1 14 z') (s1 (s1 σ 61 z) 61 z') tr u := C.of rfl rfl rfl rfl (C.d.wI W1.1.F (r := 1) (f := 14) (k := 61) (by decide) (by decide)) (fun _ _ => rfl) (fun j hj => ⟨by rw [fi_sfi_ne (by omega)], fi_sfi_ne (by omega)⟩) (fun r hr => fi_sfi_ne (by omega)) (ks1_s1 (by decide)) (fun _ _ => rfl) W1.1
  rw [s1_s1] at C1
  refine ⟨by unfold xpi; rw [if_pos (kk1 C)], C1, rsF H (by omega), hT, e⟩
theorem c_rowLasts {h0 : AH} {m k : Nat} {T : Nat → Int32} {z inc : Int32} {res : Int64} (Z : CZ h0 σ tr u m T h z) (W : WV σ) (h1 : 0 < m) (hm : m ≤ 16) (hk : k ≤ 40) (hN : 100 < N) : ∃ h', f_X11_rowLasts h N 1 res inc (nI k) (nI m) = some (bI (rlX T inc m k res z).2.2, h') ∧ CZ h0 σ tr u m T h' (rlX T inc m k res z).1 := by
  have m0 : ¬ nI m = 0 := nI_ne0 (by omega) (by omega)
  unfold f_X11_rowLasts
  rw [if_pos (kk1 Z.1)]
  refine (lpS (σ := AH) (α := Int32 × Int64 × Bool) (fun n i h x => f_X11_rowLasts_b6 N n h 1 x.2.1 inc (nI k) (nI m) (bI x.2.2) (nI i)) (rlS T inc m) k (fun h' x => some (bI x.2.2, h')) (fun i h' x => CZ h0 σ tr u m T h' x.1) ?_ ?_ k N 0 h (z, res, true) (by omega) (by omega) Z).elim (fun h' e => ⟨h', e.1, e.2⟩)
  · intro n h' x _
    rcases x with ⟨z, l, b⟩
    cases b <;> simp (disch := omega) only [f_X11_rowLasts_b6, f_X11_rowLasts_b6_body, obs, b10, b01, bm, if_true_, if_false_, eq_self, not_true_eq_false, not_false_eq_true, true_or, or_true, or_false, false_or, and_true, true_and, and_false, false_and, or_self, and_self, Bool.false_eq_true, ite_self, n25, n20, n24, n100, nI_leI, Nat.le_refl, bI_f, bI_t]
  · intro n i h' x hi Z'
    have hn : ¬ k ≤ i := by omega
    rcases x with ⟨z, l, b⟩
    obtain ⟨p1, Z2⟩ := Z'.st W (z' := thr z)
    have C' := Z'.1
    have C2 := Z2.1
    have hz : xgi h' 1 12 14 = some z := by rw [ki1_14 C']; exact congrArg some s1_eq
    have hz2 : xgi (sfi h' 1 14 (thr z)) 1 12 14 = some (thr z) := by rw [ki1_14 C2]; exact congrArg some s1_eq
    have hix : ixN (thr z) m < m := Nat.mod_lt _ h1
    have x1 : xia (sfi h' 1 14 (thr z)) 28 (nI (ixN (thr z) m)) = some (T (ixN (thr z) m)) := xia_of (kk28 C2) (kl C2 (by decide)) (show _ < 16 by omega) (by decide) (Z2.2.2.1 _ hix)
    have et : z * 1103515245 + 12345 = thr z := rfl
    refine ⟨sfi h' 1 14 (thr z), ?_, Z2⟩
    by_cases q : 0 ≤ lg_cmp (l + (inc - T (ixN (thr z) m)).toInt64) 0 <;> cases b <;> simp (disch := omega) only [f_X11_rowLasts_b6, f_X11_rowLasts_b6_body, f_X11_rowLasts_b59, obs, b10, b01, bm, if_true_, if_false_, eq_self, not_true_eq_false, not_false_eq_true, true_or, or_true, or_false, false_or, and_true, true_and, and_false, false_and, or_self, and_self, Bool.false_eq_true, ite_self, n25, n20, n24, n100, decide_true, decide_false, Bool.not_true, Bool.not_false, Bool.and_true, Bool.and_false, Bool.true_and, Bool.false_and, nI_leI, hn, hz, et, p1, kr1_18 C2, hz2, m0, ix_eq, x1, q, rlS, bI_f, bI_t, nI_1]
theorem c_lastsL {h0 : AH} {m k c : Nat} {T : Nat → Int32} {z inc r : Int32} (Z : CZ h0 σ tr u m T h z) (W : WV σ) (h1 : 0 < m) (hm : m ≤ 16) (hk : k ≤ 40) (hc : c ≤ 40) (hN : 100 < N) : ∃ h', f_X11_lasts_b72 N N h 1 r (nI k) (nI c) inc (nI m) 0 0 = some ((itr (lsS T inc m k r.toInt64) 0 c (z, 0)).2, h') ∧ CZ h0 σ tr u m T h' (itr (lsS T inc m k r.toInt64) 0 c (z, 0)).1 := by
  refine (lpS (σ := AH) (α := Int32 × Int32) (fun n i h x => f_X11_lasts_b72 N n h 1 r (nI k) (nI c) inc (nI m) x.2 (nI i)) (lsS T inc m k r.toInt64) c (fun h' x => some (x.2, h')) (fun i h' x => CZ h0 σ tr u m T h' x.1) ?_ ?_ c N 0 h (z, 0) (by omega) (by omega) Z).elim (fun h' e => ⟨h', e.1, e.2⟩)
  · intro n h' x _
    simp (disch := omega) only [f_X11_lasts_b72, f_X11_lasts_b72_body, obs, b10, b01, bm, if_true_, if_false_, eq_self, not_true_eq_false, not_false_eq_true, true_or, or_true, or_false, false_or, and_true, true_and, and_false, false_and, or_self, and_self, Bool.false_eq_true, ite_self, n25, n20, n24, n100, nI_leI, Nat.le_refl]
  · intro n i h' x hi Z'
    have hn : ¬ c ≤ i := by omega
    obtain ⟨h2, e2, Z2⟩ := c_rowLasts (N := N) (k := k) (inc := inc) (res := r.toInt64) Z' W h1 hm hk hN
    refine ⟨h2, ?_, Z2⟩
    rcases q : (rlX T inc m k r.toInt64 x.1).2.2
    · rw [q] at e2
      simp (disch := omega) only [f_X11_lasts_b72, f_X11_lasts_b72_body, f_X11_lasts_b96, obs, b10, b01, bm, if_true_, if_false_, eq_self, not_true_eq_false, not_false_eq_true, true_or, or_true, or_false, false_or, and_true, true_and, and_false, false_and, or_self, and_self, Bool.false_eq_true, ite_self, n25, n20, n24, n100, nI_leI, hn, e2, bI_f, lsS, q, nI_1]
    · rw [q] at e2
      simp (disch := omega) only [f_X11_lasts_b72, f_X11_lasts_b72_body, f_X11_lasts_b96, obs, b10, b01, bm, if_true_, if_false_, eq_self, not_true_eq_false, not_false_eq_true, true_or, or_true, or_false, false_or, and_true, true_and, and_false, false_and, or_self, and_self, Bool.false_eq_true, ite_self, n25, n20, n24, n100, nI_leI, hn, e2, bI_t, lsS, q, nI_1]
theorem r_rowL {m k : Nat} {T A B : Nat → Int32} {z inc r x4 x7 x8 : Int32} (H : RS h (s1 (kY σ A B) 61 z)) (hB : ∀ j, j < m → B j = T j) (h1 : 0 < m) (hm : m ≤ 16) (hk : k ≤ 40) (hN : 100 < N) (K : AH → Nat → Int32 → Int32 → Int32 → Int32 → Int32 → Int32 → Int32 → Option (Int32 × AH)) : ∃ h', f_X12_lasts_b126 N K N h 100 r (nI k) x4 (nI m) inc x7 x8 r.toInt64 1 0 = K h' 100 r (nI k) x4 (nI m) inc (if (rlX T inc m k r.toInt64 z).2.2 then x7 + 1 else x7) (x8 + 1) ∧ RS h' (s1 (kY σ A B) 61 (rlX T inc m k r.toInt64 z).1) ∧ FRc h h' := by
  have m0 : ¬ nI m = 0 := nI_ne0 (by omega) (by omega)
  refine (lpS (σ := AH) (α := Int32 × Int64 × Bool) (fun n i h x => f_X12_lasts_b126 N K n h 100 r (nI k) x4 (nI m) inc x7 x8 x.2.1 (bI x.2.2) (nI i)) (rlS T inc m) k (fun h' x => K h' 100 r (nI k) x4 (nI m) inc (if x.2.2 then x7 + 1 else x7) (x8 + 1)) (fun i h' x => RS h' (s1 (kY σ A B) 61 x.1) ∧ FRc h h') ?_ ?_ k N 0 h (z, r.toInt64, true) (by omega) (by omega) ⟨H, FRc.refl⟩).elim (fun h' e => ⟨h', e.1, e.2⟩)
  · intro n h' x _
    rcases x with ⟨z, l, b⟩
    cases b <;> simp (disch := omega) only [f_X12_lasts_b126, f_X12_lasts_b126_body, f_X12_lasts_b209, obs, b10, b01, bm, if_true_, if_false_, eq_self, not_true_eq_false, not_false_eq_true, true_or, or_true, or_false, false_or, and_true, true_and, and_false, false_and, or_self, and_self, Bool.false_eq_true, ite_self, n25, n20, n24, n100, nI_leI, Nat.le_refl, bI_f, bI_t, Int32.add_zero]
  · intro n i h' x hi ⟨H', F⟩
    have hn : ¬ k ≤ i := by omega
    rcases x with ⟨z, l, b⟩
    have H2 := H'.fi 61 (thr z)
    rw [s1_s1] at H2
    have hz : xgi h' 100 13 61 = some z := by rw [RS.gi H']; exact congrArg some s1_eq
    have hz2 : xgi (sfi h' 100 61 (thr z)) 100 13 61 = some (thr z) := by rw [RS.gi H2]; exact congrArg some s1_eq
    have hix : ixN (thr z) m < m := Nat.mod_lt _ h1
    have x1 : xia (sfi h' 100 61 (thr z)) 175 (nI (ixN (thr z) m)) = some (T (ixN (thr z) m)) := by rw [← hB _ hix]; exact ra75 H2 (by omega)
    have et : z * 1103515245 + 12345 = thr z := rfl
    have hlt : ∀ y : Int64, (lg_cmp y 0 < 0) = ¬ 0 ≤ lg_cmp y 0 := fun y => by rw [Int32.not_le]
    refine ⟨sfi h' 100 61 (thr z), ?_, H2, F.trans FRc.f⟩
    by_cases q : 0 ≤ lg_cmp (l + (inc - T (ixN (thr z) m)).toInt64) 0 <;> cases b <;> simp (disch := omega) only [f_X12_lasts_b126, f_X12_lasts_b126_body, f_X12_lasts_b188, f_X12_lasts_b189, obs, b10, b01, bm, if_true_, if_false_, eq_self, not_true_eq_false, not_false_eq_true, true_or, or_true, or_false, false_or, and_true, true_and, and_false, false_and, or_self, and_self, Bool.false_eq_true, ite_self, n25, n20, n24, n100, decide_true, decide_false, Bool.not_true, Bool.not_false, Bool.and_true, Bool.and_false, Bool.true_and, Bool.false_and, nI_leI, hn, hz, et, H'.pi, rg75 H2, hz2, m0, ix_eq, x1, hlt, q, rlS, bI_f, bI_t, nI_1]
theorem r_lastsL {m k c : Nat} {T A B : Nat → Int32} {z inc r : Int32} (H : RS h (s1 (kY σ A B) 61 z)) (hB : ∀ j, j < m → B j = T j) (h1 : 0 < m) (hm : m ≤ 16) (hk : k ≤ 40) (hc : c ≤ 40) (hN : 100 < N) : ∃ h', f_X12_lasts_b109 N N h 100 r (nI k) (nI c) (nI m) inc 0 0 = some ((itr (lsS T inc m k r.toInt64) 0 c (z, 0)).2, h') ∧ RS h' (s1 (kY σ A B) 61 (itr (lsS T inc m k r.toInt64) 0 c (z, 0)).1) ∧ FRc h h' := by
  refine (lpS (σ := AH) (α := Int32 × Int32) (fun n i h x => f_X12_lasts_b109 N n h 100 r (nI k) (nI c) (nI m) inc x.2 (nI i)) (lsS T inc m k r.toInt64) c (fun h' x => some (x.2, h')) (fun i h' x => RS h' (s1 (kY σ A B) 61 x.1) ∧ FRc h h') ?_ ?_ c N 0 h (z, 0) (by omega) (by omega) ⟨H, FRc.refl⟩).elim (fun h' e => ⟨h', e.1, e.2⟩)
  · intro n h' x _
    simp (disch := omega) only [f_X12_lasts_b109, f_X12_lasts_b109_body, obs, b10, b01, bm, if_true_, if_false_, eq_self, not_true_eq_false, not_false_eq_true, true_or, or_true, or_false, false_or, and_true, true_and, and_false, false_and, or_self, and_self, Bool.false_eq_true, ite_self, n25, n20, n24, n100, nI_leI, Nat.le_refl]
  · intro n i h' x hi ⟨H', F⟩
    have hn : ¬ c ≤ i := by omega
    obtain ⟨h2, e2, H2, F2⟩ := r_rowL (N := N) (x4 := nI c) (x7 := x.2) (x8 := nI i) (r := r) (inc := inc) H' hB h1 hm hk hN (f_X12_lasts_b109 N n)
    refine ⟨h2, ?_, H2, F.trans F2⟩
    simp (disch := omega) only [f_X12_lasts_b109, f_X12_lasts_b109_body, obs, b10, b01, bm, if_true_, if_false_, eq_self, not_true_eq_false, not_false_eq_true, true_or, or_true, or_false, false_or, and_true, true_and, and_false, false_and, or_self, and_self, Bool.false_eq_true, ite_self, n25, n20, n24, n100, nI_leI, hn, e2, lsS, nI_1]
theorem in_1 {h : AH} {v : Int32} : (f_X12_in h v 1 40 = some 0 ∧ f_X11_within h v 1 40 = some 0) ∨ (∃ k, k ≤ 40 ∧ v = nI k ∧ ∀ h', f_X12_in h' v 1 40 = some 1 ∧ f_X11_within h' v 1 40 = some 1) := by
  by_cases q1 : v < 1
  · refine Or.inl ⟨?_, ?_⟩
    · unfold f_X12_in; rw [if_pos q1]
    · unfold f_X11_within; rw [if_pos q1]
  · by_cases q2 : 40 < v
    · refine Or.inl ⟨?_, ?_⟩
      · unfold f_X12_in; rw [if_neg q1, if_pos q2]
      · unfold f_X11_within; rw [if_neg q1, if_pos q2]
    · have h1 := q1
      have h2 := q2
      rw [Int32.lt_iff_toInt_lt, show (1 : Int32).toInt = 1 by decide] at h1
      rw [Int32.lt_iff_toInt_lt, show (40 : Int32).toInt = 40 by decide] at h2
      obtain ⟨k, hk, ek⟩ := bd_of_int (x := v) (n := 41) (by omega)
      refine Or.inr ⟨k, by omega, ek, fun h' => ⟨?_, ?_⟩⟩
      · unfold f_X12_in; rw [if_neg q1, if_neg q2]
      · unfold f_X11_within; rw [if_neg q1, if_neg q2]
theorem pub_lasts {a b c d : Int32} (I : INV L xs h σ tr u n) (hN : 2000 < N) : ∃ v h1 h2 σ' tr' u', f_X11_lasts h N 1 a b c d = some (v, h1) ∧ f_X12_lasts h1 N 100 a b c d = some (v, h2) ∧ (kd h1 9000 = 30 ∧ ln h1 9000 = L ∧ ai h1 9000 = xs) ∧ INV L xs h2 σ' tr' u' (n + 1) := by
  obtain ⟨C, H, W, X, S, U⟩ := id I
  rcases okC b (n := 16) (by decide) with ob | ⟨ob, q, hq, rfl⟩
  · exact ⟨-1, h, h, σ, tr, u, by simp only [f_X11_lasts, obs, b10, b01, bm, if_true_, if_false_, eq_self, not_true_eq_false, not_false_eq_true, true_or, or_true, or_false, false_or, and_true, true_and, and_false, false_and, or_self, and_self, Bool.false_eq_true, ite_self, n25, n20, n24, n100, kk1 C, RS.kk H, c_isGauge C W.1, c_isTerm C W.1, c_isFarm C W.1, c_isSeason, c_isPlace, r_isGauge H W.1, r_isTerm H W.1, r_isFarm H W.1, r_isSeason, r_isWeek, r_isPlace, r_isSheet, ci1, ri1, ci2, ri2, ci3, ri3, ci4, ri4, ci5, ri5, ci11, ri11, ci16, ri16, ci98, ri98, ci99, ri99, ci198, ri198, ci9999, ri9999, ob], by simp only [f_X12_lasts, obs, b10, b01, bm, if_true_, if_false_, eq_self, not_true_eq_false, not_false_eq_true, true_or, or_true, or_false, false_or, and_true, true_and, and_false, false_and, or_self, and_self, Bool.false_eq_true, ite_self, n25, n20, n24, n100, kk1 C, RS.kk H, c_isGauge C W.1, c_isTerm C W.1, c_isFarm C W.1, c_isSeason, c_isPlace, r_isGauge H W.1, r_isTerm H W.1, r_isFarm H W.1, r_isSeason, r_isWeek, r_isPlace, r_isSheet, ci1, ri1, ci2, ri2, ci3, ri3, ci4, ri4, ci5, ri5, ci11, ri11, ci16, ri16, ci98, ri98, ci99, ri99, ci198, ri198, ci9999, ri9999, ob], S, I.up (by omega)⟩
  by_cases a1 : a < 0
  · have w1 : f_X11_within h a 0 2000000000 = some 0 := by unfold f_X11_within; rw [if_pos a1]
    exact ⟨-2, h, h, σ, tr, u, by simp only [f_X11_lasts, obs, b10, b01, bm, if_true_, if_false_, eq_self, not_true_eq_false, not_false_eq_true, true_or, or_true, or_false, false_or, and_true, true_and, and_false, false_and, or_self, and_self, Bool.false_eq_true, ite_self, n25, n20, n24, n100, kk1 C, RS.kk H, c_isGauge C W.1, c_isTerm C W.1, c_isFarm C W.1, c_isSeason, c_isPlace, r_isGauge H W.1, r_isTerm H W.1, r_isFarm H W.1, r_isSeason, r_isWeek, r_isPlace, r_isSheet, ci1, ri1, ci2, ri2, ci3, ri3, ci4, ri4, ci5, ri5, ci11, ri11, ci16, ri16, ci98, ri98, ci99, ri99, ci198, ri198, ci9999, ri9999, ob, w1], by simp only [f_X12_lasts, obs, b10, b01, bm, if_true_, if_false_, eq_self, not_true_eq_false, not_false_eq_true, true_or, or_true, or_false, false_or, and_true, true_and, and_false, false_and, or_self, and_self, Bool.false_eq_true, ite_self, n25, n20, n24, n100, kk1 C, RS.kk H, c_isGauge C W.1, c_isTerm C W.1, c_isFarm C W.1, c_isSeason, c_isPlace, r_isGauge H W.1, r_isTerm H W.1, r_isFarm H W.1, r_isSeason, r_isWeek, r_isPlace, r_isSheet, ci1, ri1, ci2, ri2, ci3, ri3, ci4, ri4, ci5, ri5, ci11, ri11, ci16, ri16, ci98, ri98, ci99, ri99, ci198, ri198, ci9999, ri9999, ob, a1], S, I.up (by omega)⟩
  have hgt : (0 < lg_cmp a.toInt64 2000000000) = (2000000000 < a) := by
    apply propext
    rw [← Int32.not_le, cmp_le, Int64.le_iff_toInt_le, Int32.toInt_toInt64, show (2000000000 : Int64).toInt = 2000000000 by decide, Int32.lt_iff_toInt_lt, show (2000000000 : Int32).toInt = 2000000000 by decide]
    omega
  by_cases a2 : 2000000000 < a
  · have w1 : f_X11_within h a 0 2000000000 = some 0 := by unfold f_X11_within; rw [if_neg a1, if_pos a2]
    exact ⟨-2, h, h, σ, tr, u, by simp only [f_X11_lasts, obs, b10, b01, bm, if_true_, if_false_, eq_self, not_true_eq_false, not_false_eq_true, true_or, or_true, or_false, false_or, and_true, true_and, and_false, false_and, or_self, and_self, Bool.false_eq_true, ite_self, n25, n20, n24, n100, kk1 C, RS.kk H, c_isGauge C W.1, c_isTerm C W.1, c_isFarm C W.1, c_isSeason, c_isPlace, r_isGauge H W.1, r_isTerm H W.1, r_isFarm H W.1, r_isSeason, r_isWeek, r_isPlace, r_isSheet, ci1, ri1, ci2, ri2, ci3, ri3, ci4, ri4, ci5, ri5, ci11, ri11, ci16, ri16, ci98, ri98, ci99, ri99, ci198, ri198, ci9999, ri9999, ob, w1], by simp only [f_X12_lasts, obs, b10, b01, bm, if_true_, if_false_, eq_self, not_true_eq_false, not_false_eq_true, true_or, or_true, or_false, false_or, and_true, true_and, and_false, false_and, or_self, and_self, Bool.false_eq_true, ite_self, n25, n20, n24, n100, kk1 C, RS.kk H, c_isGauge C W.1, c_isTerm C W.1, c_isFarm C W.1, c_isSeason, c_isPlace, r_isGauge H W.1, r_isTerm H W.1, r_isFarm H W.1, r_isSeason, r_isWeek, r_isPlace, r_isSheet, ci1, ri1, ci2, ri2, ci3, ri3, ci4, ri4, ci5, ri5, ci11, ri11, ci16, ri16, ci98, ri98, ci99, ri99, ci198, ri198, ci9999, ri9999, ob, a1, hgt, a2], S, I.up (by omega)⟩
  have wa : f_X11_within h a 0 2000000000 = some 1 := by unfold f_X11_within; rw [if_neg a1, if_neg a2]
  rcases in_1 (h := h) (v := c) with ⟨w1, w2⟩ | ⟨k, hk, rfl, wc⟩
  · exact ⟨-2, h, h, σ, tr, u, by simp only [f_X11_lasts, obs, b10, b01, bm, if_true_, if_false_, eq_self, not_true_eq_false, not_false_eq_true, true_or, or_true, or_false, false_or, and_true, true_and, and_false, false_and, or_self, and_self, Bool.false_eq_true, ite_self, n25, n20, n24, n100, kk1 C, RS.kk H, c_isGauge C W.1, c_isTerm C W.1, c_isFarm C W.1, c_isSeason, c_isPlace, r_isGauge H W.1, r_isTerm H W.1, r_isFarm H W.1, r_isSeason, r_isWeek, r_isPlace, r_isSheet, ci1, ri1, ci2, ri2, ci3, ri3, ci4, ri4, ci5, ri5, ci11, ri11, ci16, ri16, ci98, ri98, ci99, ri99, ci198, ri198, ci9999, ri9999, ob, wa, w2], by simp only [f_X12_lasts, obs, b10, b01, bm, if_true_, if_false_, eq_self, not_true_eq_false, not_false_eq_true, true_or, or_true, or_false, false_or, and_true, true_and, and_false, false_and, or_self, and_self, Bool.false_eq_true, ite_self, n25, n20, n24, n100, kk1 C, RS.kk H, c_isGauge C W.1, c_isTerm C W.1, c_isFarm C W.1, c_isSeason, c_isPlace, r_isGauge H W.1, r_isTerm H W.1, r_isFarm H W.1, r_isSeason, r_isWeek, r_isPlace, r_isSheet, ci1, ri1, ci2, ri2, ci3, ri3, ci4, ri4, ci5, ri5, ci11, ri11, ci16, ri16, ci98, ri98, ci99, ri99, ci198, ri198, ci9999, ri9999, ob, a1, hgt, a2, w1], S, I.up (by omega)⟩
  rcases in_1 (h := h) (v := d) with ⟨w1, w2⟩ | ⟨m, hm, rfl, wd⟩
  · exact ⟨-2, h, h, σ, tr, u, by simp only [f_X11_lasts, obs, b10, b01, bm, if_true_, if_false_, eq_self, not_true_eq_false, not_false_eq_true, true_or, or_true, or_false, false_or, and_true, true_and, and_false, false_and, or_self, and_self, Bool.false_eq_true, ite_self, n25, n20, n24, n100, kk1 C, RS.kk H, c_isGauge C W.1, c_isTerm C W.1, c_isFarm C W.1, c_isSeason, c_isPlace, r_isGauge H W.1, r_isTerm H W.1, r_isFarm H W.1, r_isSeason, r_isWeek, r_isPlace, r_isSheet, ci1, ri1, ci2, ri2, ci3, ri3, ci4, ri4, ci5, ri5, ci11, ri11, ci16, ri16, ci98, ri98, ci99, ri99, ci198, ri198, ci9999, ri9999, ob, wa, wc, w2], by simp only [f_X12_lasts, obs, b10, b01, bm, if_true_, if_false_, eq_self, not_true_eq_false, not_false_eq_true, true_or, or_true, or_false, false_or, and_true, true_and, and_false, false_and, or_self, and_self, Bool.false_eq_true, ite_self, n25, n20, n24, n100, kk1 C, RS.kk H, c_isGauge C W.1, c_isTerm C W.1, c_isFarm C W.1, c_isSeason, c_isPlace, r_isGauge H W.1, r_isTerm H W.1, r_isFarm H W.1, r_isSeason, r_isWeek, r_isPlace, r_isSheet, ci1, ri1, ci2, ri2, ci3, ri3, ci4, ri4, ci5, ri5, ci11, ri11, ci16, ri16, ci98, ri98, ci99, ri99, ci198, ri198, ci9999, ri9999, ob, a1, hgt, a2, wc, w1], S, I.up (by omega)⟩
  obtain ⟨h1, e1, S1⟩ := c_incomeIn (N := N) C W hq (by omega)
  have I1 := I.scr S1
  obtain ⟨h2, e2, S2, hr⟩ := c_gatherT (N := N) I1.1 W hq (by omega)
  have I2 := I1.scr S2
  have C2 := I2.1
  have H2 := I2.2.1
  obtain ⟨y1, y2⟩ := yX_ok (σ := σ) (q := q)
  by_cases q0 : (yX σ q).1 = 0
  · obtain ⟨h3, A, r1, F3, H3, -⟩ := r_years (N := N) H2 W (q := q) (by omega)
    have I3 := I2.rf F3 H3 kY_sge (fun _ _ => rfl) (fun _ _ => rfl) W.2.2.2.2.1.2.2
    refine ⟨-3, h2, h3, _, tr, u, ?_, ?_, I2.2.2.2.2.1, I3.up (by omega)⟩
    · simp only [f_X11_lasts, obs, b10, b01, bm, if_true_, if_false_, eq_self, not_true_eq_false, not_false_eq_true, true_or, or_true, or_false, false_or, and_true, true_and, and_false, false_and, or_self, and_self, Bool.false_eq_true, ite_self, n25, n20, n24, n100, kk1 C, RS.kk H, c_isGauge C W.1, c_isTerm C W.1, c_isFarm C W.1, c_isSeason, c_isPlace, r_isGauge H W.1, r_isTerm H W.1, r_isFarm H W.1, r_isSeason, r_isWeek, r_isPlace, r_isSheet, ci1, ri1, ci2, ri2, ci3, ri3, ci4, ri4, ci5, ri5, ci11, ri11, ci16, ri16, ci98, ri98, ci99, ri99, ci198, ri198, ci9999, ri9999, ob, wa, wc, wd, e1, e2, q0, nI_0]
    · simp only [f_X12_lasts, obs, b10, b01, bm, if_true_, if_false_, eq_self, not_true_eq_false, not_false_eq_true, true_or, or_true, or_false, false_or, and_true, true_and, and_false, false_and, or_self, and_self, Bool.false_eq_true, ite_self, n25, n20, n24, n100, RS.kk H2, r_isSeason, ob, a1, hgt, a2, wc, wd, r1, q0, nI_0]
  · have qn : ¬ nI (yX σ q).1 = 0 := nI_ne0 (by omega) (by omega)
    have Z0 : CZ h2 σ tr u (yX σ q).1 (fun j => totalO σ ((yX σ q).2 j) q) h2 (σ.1 61) := by
      refine ⟨?_, H2, hr, rfl, rfl, rfl⟩
      rw [s1_self]; exact C2
    obtain ⟨h3, e3, Z3⟩ := c_lastsL (N := N) (k := k) (c := m) (inc := incomeO σ q) (r := a) Z0 W (by omega) y1 hk hm (by omega)
    have H3 : RS h3 σ := Z3.2.1
    have S3 : kd h3 9000 = 30 ∧ ln h3 9000 = L ∧ ai h3 9000 = xs := by
      obtain ⟨s1, s2, s3⟩ := I2.2.2.2.2.1
      obtain ⟨t1, t2, t3⟩ := Z3.2.2.2
      exact ⟨t1.trans s1, t2.trans s2, t3.trans s3⟩
    obtain ⟨h4, A, r1, F4, H4, hA⟩ := r_years (N := N) H3 W (q := q) (by omega)
    obtain ⟨h5, r5, F5, B, H5, hB⟩ : ∃ h5, f_X12_lasts_b64 N N h4 100 a (nI q) (nI k) (nI m) (nI (yX σ q).1) 0 = (f_X12_incomeOf h5 N 100 (nI q)).bind (fun v12 => f_X12_lasts_b109 N N h5 100 a (nI k) (nI m) (nI (yX σ q).1) v12 0 0) ∧ FRc h3 h5 ∧ ∃ B, RS h5 (kY σ A B) ∧ ∀ j, j < (yX σ q).1 → B j = totalO σ ((yX σ q).2 j) q := by
      refine (lpS (σ := AH) (α := Unit) (fun n i h _ => f_X12_lasts_b64 N n h 100 a (nI q) (nI k) (nI m) (nI (yX σ q).1) (nI i)) (fun _ x => x) (yX σ q).1 (fun h5 _ => (f_X12_incomeOf h5 N 100 (nI q)).bind (fun v12 => f_X12_lasts_b109 N N h5 100 a (nI k) (nI m) (nI (yX σ q).1) v12 0 0)) (fun i h' _ => FRc h3 h' ∧ ∃ B, RS h' (kY σ A B) ∧ ∀ j, j < i → B j = totalO σ ((yX σ q).2 j) q) ?_ ?_ (yX σ q).1 N 0 h4 () (by omega) (by omega) ⟨F4, _, H4, fun j hj => absurd hj (by omega)⟩).elim (fun h' e => ⟨h', e.1, e.2⟩)
      · intro n h' _ _
        simp (disch := omega) only [f_X12_lasts_b64, f_X12_lasts_b64_body, obs, b10, b01, bm, if_true_, if_false_, eq_self, not_true_eq_false, not_false_eq_true, true_or, or_true, or_false, false_or, and_true, true_and, and_false, false_and, or_self, and_self, Bool.false_eq_true, ite_self, n25, n20, n24, n100, nI_leI, Nat.le_refl]
      · intro n i h' _ hi ⟨F, B, H', hB⟩
        have hn : ¬ (yX σ q).1 ≤ i := by omega
        have v74 : xia h' 174 (nI i) = some (nI ((yX σ q).2 i)) := by rw [← hA i hi]; exact ra74 H' (by omega)
        have tot : f_X12_totalOf h' N 100 (nI ((yX σ q).2 i)) (nI q) = some (totalO σ ((yX σ q).2 i) q) := by rw [← kY_totalO (A := A) (B := B)]; exact r_totalOf H' (kY_W W) (y2 i hi) hq (by omega)
        have w1 : xis h' 175 (nI i) (totalO σ ((yX σ q).2 i) q) = some (sai h' 175 i (totalO σ ((yX σ q).2 i) q)) := (rw75 H' (n := i) (x := totalO σ ((yX σ q).2 i) q) (by omega)).1
        refine ⟨sai h' 175 i (totalO σ ((yX σ q).2 i) q), ?_, F.trans (FRc.a (by omega) (by omega)), _, kY_75 H', ?_⟩
        · simp (disch := omega) only [f_X12_lasts_b64, f_X12_lasts_b64_body, obs, b10, b01, bm, if_true_, if_false_, eq_self, not_true_eq_false, not_false_eq_true, true_or, or_true, or_false, false_or, and_true, true_and, and_false, false_and, or_self, and_self, Bool.false_eq_true, ite_self, n25, n20, n24, n100, nI_leI, hn, rg75 H', rg74 H', v74, tot, w1, nI_1]
        · intro j hj
          show (if j = i then _ else B j) = _
          by_cases e : j = i
          · rw [if_pos e, e]
          · rw [if_neg e]; exact hB j (by omega)
    have inc : f_X12_incomeOf h5 N 100 (nI q) = some (incomeO σ q) := by rw [← kY_incomeO (A := A) (B := B)]; exact r_incomeOf H5 (kY_W W) hq (by omega)
    have H5' : RS h5 (s1 (kY σ A B) 61 (σ.1 61)) := by
      have : s1 (kY σ A B) 61 (σ.1 61) = kY σ A B := s1_self (σ := kY σ A B)
      rw [this]; exact H5
    obtain ⟨h6, e6, H6, F6⟩ := r_lastsL (N := N) (k := k) (c := m) (inc := incomeO σ q) (r := a) (T := fun j => totalO σ ((yX σ q).2 j) q) H5' hB (by omega) y1 hk hm (by omega)
    generalize itr (lsS (fun j => totalO σ ((yX σ q).2 j) q) (incomeO σ q) (yX σ q).1 k a.toInt64) 0 m (σ.1 61, 0) = x at e3 Z3 e6 H6
    have sg : SGE (s1 σ 61 x.1) (s1 (kY σ A B) 61 x.1) := ⟨fun _ _ => rfl, fun k hk h1 h2 => kY_sge.2 k hk h1 h2⟩
    have W1 : WV (s1 σ 61 x.1) := W.of (vs1_s1 (by decide)) (fun _ _ => rfl) (W.2.1.w1 (by decide)) W.2.2.1
    have X1 : WX (s1 σ 61 x.1) (n + 1) := (X.up (by omega)).of (xs1_s1 (by decide)) (fun _ _ => rfl)
    refine ⟨x.2, h3, h6, s1 (kY σ A B) 61 x.1, tr, u, ?_, ?_, S3, I.st (Z3.1.sg sg) (F5.trans F6) H6 (W1.sg sg (fun _ _ => rfl) (fun _ _ => rfl) W.2.2.2.2.1.2.2) (X1.sg sg) S3 (by omega)⟩
    · simp only [f_X11_lasts, obs, b10, b01, bm, if_true_, if_false_, eq_self, not_true_eq_false, not_false_eq_true, true_or, or_true, or_false, false_or, and_true, true_and, and_false, false_and, or_self, and_self, Bool.false_eq_true, ite_self, n25, n20, n24, n100, kk1 C, RS.kk H, c_isGauge C W.1, c_isTerm C W.1, c_isFarm C W.1, c_isSeason, c_isPlace, r_isGauge H W.1, r_isTerm H W.1, r_isFarm H W.1, r_isSeason, r_isWeek, r_isPlace, r_isSheet, ci1, ri1, ci2, ri2, ci3, ri3, ci4, ri4, ci5, ri5, ci11, ri11, ci16, ri16, ci98, ri98, ci99, ri99, ci198, ri198, ci9999, ri9999, ob, wa, wc, wd, e1, e2, qn, e3]
    · simp only [f_X12_lasts, obs, b10, b01, bm, if_true_, if_false_, eq_self, not_true_eq_false, not_false_eq_true, true_or, or_true, or_false, false_or, and_true, true_and, and_false, false_and, or_self, and_self, Bool.false_eq_true, ite_self, n25, n20, n24, n100, RS.kk H3, r_isSeason, ob, a1, hgt, a2, wc, wd, r1, qn, r5, inc, e6]
end
