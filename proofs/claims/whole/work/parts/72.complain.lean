/-! ===== public: complain ===== -/
section
variable {L N : Nat} {xs : Nat → Int32} {h h' : AH} {σ σ' : SG} {tr : Nat → Nat} {u n : Nat}

def plP (σ : SG) (f s c : Nat) : Bool := decide (σ.2 56 c = nI f) && decide (σ.2 57 c = nI s)
def plO (σ : SG) (f s : Nat) : Option Nat := fnd (fun c => plP σ f s c = true) 0 (cn σ 55)
theorem plO_lt {f s c : Nat} (e : plO σ f s = some c) : c < cn σ 55 := by
  have := (fnd_lt e).1
  omega
theorem c_find21 (C : CS h σ tr u) (W : CT σ) {f s : Nat} (hN : 100 < N) : f_X7_find h N 21 (nI f) (nI s) = some (oI (plO σ f s)) := by
  have hL := W.q
  unfold f_X7_find
  rw [if_pos (kk21 C)]
  refine lpF (fun n i => f_X7_find_b2 h N n 21 (nI f) (nI s) (nI i)) (fun l => plP σ f s l = true) (cn σ 55) (fun o => some (oI o)) ?_ ?_ (m := cn σ 55) (i := 0) (by omega) (by omega)
  · intro n
    simp (disch := omega) only [f_X7_find_b2, f_X7_find_b2_body, obs, b10, b01, bm, if_true_, if_false_, eq_self, not_true_eq_false, not_false_eq_true, true_or, or_true, or_false, false_or, and_true, true_and, and_false, false_and, or_self, and_self, Bool.false_eq_true, ite_self, n25, n20, n24, n100, ki21_3 C, hL.1, nI_leI, Nat.le_refl, oI_n]
  · intro n i hi
    have hn : ¬ cn σ 55 ≤ i := by omega
    by_cases q1 : σ.2 56 i = nI f <;> by_cases q2 : σ.2 57 i = nI s <;> simp (disch := omega) only [f_X7_find_b2, f_X7_find_b2_body, f_X7_find_b32, obs, b10, b01, bm, if_true_, if_false_, eq_self, not_true_eq_false, not_false_eq_true, true_or, or_true, or_false, false_or, and_true, true_and, and_false, false_and, or_self, and_self, Bool.false_eq_true, ite_self, n25, n20, n24, n100, decide_true, decide_false, Bool.not_true, Bool.not_false, Bool.and_true, Bool.and_false, Bool.true_and, Bool.false_and, ki21_3 C, hL.1, nI_leI, hn, ka21_0 C, ka21_1 C, q1, q2, plP, oI_s, nI_1]
def hsS (σ : SG) (f s c : Nat) (a : Int32) : Int32 := if a = 0 then (if plP σ f s c then 1 else 0) else 1
theorem hs_ne {f s : Nat} : ∀ {m i : Nat} {a : Int32}, ¬ a = 0 → ¬ itr (hsS σ f s) i m a = 0 := by
  intro m
  induction m with
  | zero => intro i a h; exact h
  | succ m ih =>
    intro i a h
    refine ih (i := i + 1) (a := hsS σ f s i a) ?_
    unfold hsS
    rw [if_neg h]
    decide
theorem hs_eq {f s : Nat} : ∀ {m i : Nat}, (itr (hsS σ f s) i m 0 = 0) ↔ fnd (fun c => plP σ f s c = true) i m = none := by
  intro m
  induction m with
  | zero => intro i; exact ⟨fun _ => rfl, fun _ => rfl⟩
  | succ m ih =>
    intro i
    show itr (hsS σ f s) (i + 1) m (hsS σ f s i 0) = 0 ↔ _
    unfold fnd
    rcases q : plP σ f s i
    · have : hsS σ f s i 0 = 0 := by unfold hsS; rw [if_pos rfl, q]; rfl
      rw [this, if_neg (by decide)]
      exact ih
    · have : hsS σ f s i 0 = 1 := by unfold hsS; rw [if_pos rfl, q]; rfl
      rw [this, if_pos rfl]
      exact ⟨fun e => absurd e (hs_ne (by decide)), fun e => absurd e (by simp)⟩
theorem pub_complain {a b : Int32} (I : INV L xs h σ tr u n) (hN : 2000 < N) : ∃ v h1 h2 σ' tr' u', f_X11_complain h N 1 a b = some (v, h1) ∧ f_X12_complain h1 N 100 a b = some (v, h2) ∧ (kd h1 9000 = 30 ∧ ln h1 9000 = L ∧ ai h1 9000 = xs) ∧ INV L xs h2 σ' tr' u' (n + 1) := by
  obtain ⟨C, H, W, X, S, U⟩ := id I
  have hG := W.1.g
  have hT := W.1.t
  have hF := W.1.f
  have hTl := W.1.tl
  have hQ := W.1.q
  rcases okC a (n := cn σ 26) (by omega) with oa | ⟨oa, f, hf, rfl⟩
  · exact ⟨-1, h, h, σ, tr, u, by simp only [f_X11_complain, obs, b10, b01, bm, if_true_, if_false_, eq_self, not_true_eq_false, not_false_eq_true, true_or, or_true, or_false, false_or, and_true, true_and, and_false, false_and, or_self, and_self, Bool.false_eq_true, ite_self, n25, n20, n24, n100, kk1 C, RS.kk H, c_isGauge C W.1, c_isTerm C W.1, c_isFarm C W.1, c_isSeason, c_isPlace, r_isGauge H W.1, r_isTerm H W.1, r_isFarm H W.1, r_isSeason, r_isWeek, r_isPlace, r_isSheet, ci1, ri1, ci2, ri2, ci3, ri3, ci4, ri4, ci5, ri5, ci11, ri11, ci16, ri16, ci98, ri98, ci99, ri99, ci198, ri198, ci9999, ri9999, oa], by simp only [f_X12_complain, obs, b10, b01, bm, if_true_, if_false_, eq_self, not_true_eq_false, not_false_eq_true, true_or, or_true, or_false, false_or, and_true, true_and, and_false, false_and, or_self, and_self, Bool.false_eq_true, ite_self, n25, n20, n24, n100, kk1 C, RS.kk H, c_isGauge C W.1, c_isTerm C W.1, c_isFarm C W.1, c_isSeason, c_isPlace, r_isGauge H W.1, r_isTerm H W.1, r_isFarm H W.1, r_isSeason, r_isWeek, r_isPlace, r_isSheet, ci1, ri1, ci2, ri2, ci3, ri3, ci4, ri4, ci5, ri5, ci11, ri11, ci16, ri16, ci98, ri98, ci99, ri99, ci198, ri198, ci9999, ri9999, oa], I.2.2.2.2.1, I.up (by omega)⟩
  rcases okC b (n := 16) (by decide) with ob | ⟨ob, s, hs, rfl⟩
  · exact ⟨-1, h, h, σ, tr, u, by simp only [f_X11_complain, obs, b10, b01, bm, if_true_, if_false_, eq_self, not_true_eq_false, not_false_eq_true, true_or, or_true, or_false, false_or, and_true, true_and, and_false, false_and, or_self, and_self, Bool.false_eq_true, ite_self, n25, n20, n24, n100, kk1 C, RS.kk H, c_isGauge C W.1, c_isTerm C W.1, c_isFarm C W.1, c_isSeason, c_isPlace, r_isGauge H W.1, r_isTerm H W.1, r_isFarm H W.1, r_isSeason, r_isWeek, r_isPlace, r_isSheet, ci1, ri1, ci2, ri2, ci3, ri3, ci4, ri4, ci5, ri5, ci11, ri11, ci16, ri16, ci98, ri98, ci99, ri99, ci198, ri198, ci9999, ri9999, oa, ob], by simp only [f_X12_complain, obs, b10, b01, bm, if_true_, if_false_, eq_self, not_true_eq_false, not_false_eq_true, true_or, or_true, or_false, false_or, and_true, true_and, and_false, false_and, or_self, and_self, Bool.false_eq_true, ite_self, n25, n20, n24, n100, kk1 C, RS.kk H, c_isGauge C W.1, c_isTerm C W.1, c_isFarm C W.1, c_isSeason, c_isPlace, r_isGauge H W.1, r_isTerm H W.1, r_isFarm H W.1, r_isSeason, r_isWeek, r_isPlace, r_isSheet, ci1, ri1, ci2, ri2, ci3, ri3, ci4, ri4, ci5, ri5, ci11, ri11, ci16, ri16, ci98, ri98, ci99, ri99, ci198, ri198, ci9999, ri9999, oa, ob], I.2.2.2.2.1, I.up (by omega)⟩
  have X1 := X.up (m := n + 1) (by omega)
  have lp : ∀ (h : AH), RS h σ → ∀ (a : Int32) (R : Int32 → Option (Int32 × AH)), (∀ n x, f_X12_complain_b36 N (n + 1) h 100 (nI f) (nI s) x (nI (cn σ 55)) = R x) → f_X12_complain_b36 N N h 100 (nI f) (nI s) a 0 = R (itr (hsS σ f s) 0 (cn σ 55) a) := by
    intro h H a R hR
    refine lpB (fun n i x => f_X12_complain_b36 N n h 100 (nI f) (nI s) x (nI i)) (hsS σ f s) (cn σ 55) R hR ?_ (m := cn σ 55) (i := 0) (by omega) (by omega)
    intro n i x hi
    have hn : ¬ cn σ 55 ≤ i := by omega
    by_cases q0 : x = 0
    · by_cases q1 : σ.2 56 i = nI f <;> by_cases q2 : σ.2 57 i = nI s <;> simp (disch := omega) only [f_X12_complain_b36, f_X12_complain_b36_body, f_X12_complain_b71, f_X12_complain_b75, f_X12_complain_b76, obs, b10, b01, bm, if_true_, if_false_, eq_self, not_true_eq_false, not_false_eq_true, true_or, or_true, or_false, false_or, and_true, true_and, and_false, false_and, or_self, and_self, Bool.false_eq_true, ite_self, n25, n20, n24, n100, decide_true, decide_false, Bool.not_true, Bool.not_false, Bool.and_true, Bool.and_false, Bool.true_and, Bool.false_and, RS.gi H, hQ.1, nI_leI, hn, rg56 H, ra56 H, rg57 H, ra57 H, q0, q1, q2, hsS, plP, nI_1]
    · simp (disch := omega) only [f_X12_complain_b36, f_X12_complain_b36_body, f_X12_complain_b71, f_X12_complain_b76, obs, b10, b01, bm, if_true_, if_false_, eq_self, not_true_eq_false, not_false_eq_true, true_or, or_true, or_false, false_or, and_true, true_and, and_false, false_and, or_self, and_self, Bool.false_eq_true, ite_self, n25, n20, n24, n100, RS.gi H, hQ.1, nI_leI, hn, q0, hsS, nI_1]
  have ex1 : ∀ (h : AH), RS h σ → ∀ n x, ¬ x = 0 → f_X12_complain_b36 N (n + 1) h 100 (nI f) (nI s) x (nI (cn σ 55)) = some (-3, h) := by
    intro h H n x hx
    simp (disch := omega) only [f_X12_complain_b36, f_X12_complain_b36_body, obs, b10, b01, bm, if_true_, if_false_, eq_self, not_true_eq_false, not_false_eq_true, true_or, or_true, or_false, false_or, and_true, true_and, and_false, false_and, or_self, and_self, Bool.false_eq_true, ite_self, n25, n20, n24, n100, RS.gi H, hQ.1, nI_leI, Nat.le_refl, hx]
  have exq : ∀ (h : AH), RS h σ → ∀ n x, f_X12_complain_b36 N (n + 1) h 100 (nI f) (nI s) x (nI (cn σ 55)) = f_X12_complain_b36 N 1 h 100 (nI f) (nI s) x (nI (cn σ 55)) := by
    intro h H n x
    simp (disch := omega) only [f_X12_complain_b36, f_X12_complain_b36_body, obs, b10, b01, bm, if_true_, if_false_, eq_self, not_true_eq_false, not_false_eq_true, true_or, or_true, or_false, false_or, and_true, true_and, and_false, false_and, or_self, and_self, Bool.false_eq_true, ite_self, n25, n20, n24, n100, RS.gi H, hQ.1, nI_leI, Nat.le_refl]
  have t1 := c_termOf (N := N) C W (f := f) (s := nI s) (by omega)
  have t2 := r_termOf (N := N) H W (f := f) (s := nI s) (by omega)
  rcases e : termO σ f (nI s) with _ | t
  · rw [e] at t1 t2
    have r2 := lp h H 1 (fun x => f_X12_complain_b36 N 1 h 100 (nI f) (nI s) x (nI (cn σ 55))) (exq h H)
    rw [ex1 h H 0 _ (hs_ne (by decide))] at r2
    exact ⟨-3, h, h, σ, tr, u, by simp only [f_X11_complain, obs, b10, b01, bm, if_true_, if_false_, eq_self, not_true_eq_false, not_false_eq_true, true_or, or_true, or_false, false_or, and_true, true_and, and_false, false_and, or_self, and_self, Bool.false_eq_true, ite_self, n25, n20, n24, n100, kk1 C, RS.kk H, c_isGauge C W.1, c_isTerm C W.1, c_isFarm C W.1, c_isSeason, c_isPlace, r_isGauge H W.1, r_isTerm H W.1, r_isFarm H W.1, r_isSeason, r_isWeek, r_isPlace, r_isSheet, ci1, ri1, ci2, ri2, ci3, ri3, ci4, ri4, ci5, ri5, ci11, ri11, ci16, ri16, ci98, ri98, ci99, ri99, ci198, ri198, ci9999, ri9999, oa, ob, t1, oI_n], by simp only [f_X12_complain, f_X12_complain_b32, obs, b10, b01, bm, if_true_, if_false_, eq_self, not_true_eq_false, not_false_eq_true, true_or, or_true, or_false, false_or, and_true, true_and, and_false, false_and, or_self, and_self, Bool.false_eq_true, ite_self, n25, n20, n24, n100, kk1 C, RS.kk H, c_isGauge C W.1, c_isTerm C W.1, c_isFarm C W.1, c_isSeason, c_isPlace, r_isGauge H W.1, r_isTerm H W.1, r_isFarm H W.1, r_isSeason, r_isWeek, r_isPlace, r_isSheet, ci1, ri1, ci2, ri2, ci3, ri3, ci4, ri4, ci5, ri5, ci11, ri11, ci16, ri16, ci98, ri98, ci99, ri99, ci198, ri198, ci9999, ri9999, oa, ob, t2, oI_n, r2], S, I.up (by omega)⟩
  have ht := termO_lt W e
  rw [e] at t1 t2
  have e1 := c_find21 (N := N) C W.1 (f := f) (s := s) (by omega)
  rcases e3 : plO σ f s with _ | c
  · rw [e3] at e1
    have hz : itr (hsS σ f s) 0 (cn σ 55) 0 = 0 := hs_eq.mpr e3
    by_cases q : cn σ 55 = 20
    · have r2 := lp h H 0 (fun x => f_X12_complain_b36 N 1 h 100 (nI f) (nI s) x (nI (cn σ 55))) (exq h H)
      rw [hz] at r2
      have q20 : σ.1 55 = nI 20 := by rw [hQ.1, q]
      have r3 : f_X12_complain_b36 N 1 h 100 (nI f) (nI s) 0 (nI (cn σ 55)) = some (-4, h) := by
        rw [q]
        simp (disch := omega) only [f_X12_complain_b36, f_X12_complain_b36_body, obs, b10, b01, bm, if_true_, if_false_, eq_self, not_true_eq_false, not_false_eq_true, true_or, or_true, or_false, false_or, and_true, true_and, and_false, false_and, or_self, and_self, Bool.false_eq_true, ite_self, n25, n20, n24, n100, RS.gi H, q20, nI_leI, Nat.le_refl, lt20]
      exact ⟨-4, h, h, σ, tr, u, by simp (disch := omega) only [f_X11_complain, obs, b10, b01, bm, if_true_, if_false_, eq_self, not_true_eq_false, not_false_eq_true, true_or, or_true, or_false, false_or, and_true, true_and, and_false, false_and, or_self, and_self, Bool.false_eq_true, ite_self, n25, n20, n24, n100, kk1 C, RS.kk H, c_isGauge C W.1, c_isTerm C W.1, c_isFarm C W.1, c_isSeason, c_isPlace, r_isGauge H W.1, r_isTerm H W.1, r_isFarm H W.1, r_isSeason, r_isWeek, r_isPlace, r_isSheet, ci1, ri1, ci2, ri2, ci3, ri3, ci4, ri4, ci5, ri5, ci11, ri11, ci16, ri16, ci98, ri98, ci99, ri99, ci198, ri198, ci9999, ri9999, oa, ob, t1, oI_s, oI_n, nI_negF, kr1_11 C, e1, kfull21 C W.1, q], by simp (disch := omega) only [f_X12_complain, f_X12_complain_b32, obs, b10, b01, bm, if_true_, if_false_, eq_self, not_true_eq_false, not_false_eq_true, true_or, or_true, or_false, false_or, and_true, true_and, and_false, false_and, or_self, and_self, Bool.false_eq_true, ite_self, n25, n20, n24, n100, kk1 C, RS.kk H, c_isGauge C W.1, c_isTerm C W.1, c_isFarm C W.1, c_isSeason, c_isPlace, r_isGauge H W.1, r_isTerm H W.1, r_isFarm H W.1, r_isSeason, r_isWeek, r_isPlace, r_isSheet, ci1, ri1, ci2, ri2, ci3, ri3, ci4, ri4, ci5, ri5, ci11, ri11, ci16, ri16, ci98, ri98, ci99, ri99, ci198, ri198, ci9999, ri9999, oa, ob, t2, oI_s, nI_negF, r2, r3], S, I.up (by omega)⟩
    · have hn : cn σ 55 < 20 := by omega
      obtain ⟨a1, C1⟩ := kadd21 C W.1 (x0 := nI f) (x1 := nI s) (x2 := nI t) (x3 := 0) hn
      have W1 := wts21 W hn (x0 := nI f) (x1 := nI s) (x2 := nI t) (x3 := 0) ⟨f, hf, rfl⟩ ⟨s, hs, rfl⟩ ⟨t, ht, rfl⟩ ⟨0, by omega, lt0⟩
      have p1 := kp21_4 C1 (j := cn σ 55) (v := -1) hn
      have C2 : CS (sai (ta21 h σ (nI f) (nI s) (nI t) 0) 37 (5 * (cn σ 55) + 4) (-1)) (s2 (ts21 σ (nI f) (nI s) (nI t) 0) 60 (cn σ 55) (-1)) tr u := C1.of rfl rfl rfl rfl (C1.d.wA W1.1.B (r := 37) (st := 5) (o := 4) (k := 60) (n := 20) (by decide) hn) (fun r hr => ai_sai_ne (by omega)) (fun j hj => ⟨rfl, rfl⟩) (fun _ _ => rfl) (fun _ _ => rfl) (ks2_row (by decide)) W1.1
      have H1 : RS (sai (ta21 h σ (nI f) (nI s) (nI t) 0) 37 (5 * (cn σ 55) + 4) (-1)) σ := rsA (rts21 H) (by omega)
      have w1 := rw56 H1 (n := cn σ 55) (x := nI f) hn
      have w2 := rw57 w1.2 (n := cn σ 55) (x := nI s) hn
      have w3 := rw58 w2.2 (n := cn σ 55) (x := nI t) hn
      have w4 := rw59 w3.2 (n := cn σ 55) (x := 0) hn
      have w5 := rw60 w4.2 (n := cn σ 55) (x := -1) hn
      have w6 := w5.2.fi 55 (nI (cn σ 55 + 1))
      have Wm : WV (s2 (s2 σ 56 (cn σ 55) (nI f)) 57 (cn σ 55) (nI s)) := (W.of (σ' := s2 σ 56 (cn σ 55) (nI f)) (fun _ _ => rfl) (vs2_row (by decide)) (W.2.1.w2_56 ⟨f, hf, rfl⟩) W.2.2.1).of (fun _ _ => rfl) (vs2_row (by decide)) (WR.w2_57 (σ := s2 σ 56 (cn σ 55) (nI f)) (W.2.1.w2_56 ⟨f, hf, rfl⟩) ⟨s, hs, rfl⟩) W.2.2.1
      have tm := r_termOf (N := N) w2.2 Wm (f := f) (s := nI s) (by omega)
      have tme : termO (s2 (s2 σ 56 (cn σ 55) (nI f)) 57 (cn σ 55) (nI s)) f (nI s) = some t := e
      rw [tme] at tm
      have cc1 : (s2 σ 56 (cn σ 55) (nI f)).1 55 = nI (cn σ 55) := hQ.1
      have cc2 : (s2 (s2 σ 56 (cn σ 55) (nI f)) 57 (cn σ 55) (nI s)).1 55 = nI (cn σ 55) := hQ.1
      have cc3 : (s2 (s2 (s2 σ 56 (cn σ 55) (nI f)) 57 (cn σ 55) (nI s)) 58 (cn σ 55) (nI t)).1 55 = nI (cn σ 55) := hQ.1
      have cc4 : (s2 (s2 (s2 (s2 σ 56 (cn σ 55) (nI f)) 57 (cn σ 55) (nI s)) 58 (cn σ 55) (nI t)) 59 (cn σ 55) 0).1 55 = nI (cn σ 55) := hQ.1
      have cc5 : (s2 (s2 (s2 (s2 (s2 σ 56 (cn σ 55) (nI f)) 57 (cn σ 55) (nI s)) 58 (cn σ 55) (nI t)) 59 (cn σ 55) 0) 60 (cn σ 55) (-1)).1 55 = nI (cn σ 55) := hQ.1
      have hq : ¬ nI (cn σ 55) = 20 := by rw [lt20, nI_eq (by omega) (by decide)]; exact q
      have r2 := lp _ H1 0 (fun x => f_X12_complain_b36 N 1 (sai (ta21 h σ (nI f) (nI s) (nI t) 0) 37 (5 * (cn σ 55) + 4) (-1)) 100 (nI f) (nI s) x (nI (cn σ 55))) (exq _ H1)
      rw [hz] at r2
      have r3 : f_X12_complain_b36 N 1 (sai (ta21 h σ (nI f) (nI s) (nI t) 0) 37 (5 * (cn σ 55) + 4) (-1)) 100 (nI f) (nI s) 0 (nI (cn σ 55)) = some (nI (cn σ 55), sfi (sai (sai (sai (sai (sai (sai (ta21 h σ (nI f) (nI s) (nI t) 0) 37 (5 * (cn σ 55) + 4) (-1)) 156 (cn σ 55) (nI f)) 157 (cn σ 55) (nI s)) 158 (cn σ 55) (nI t)) 159 (cn σ 55) 0) 160 (cn σ 55) (-1)) 100 55 (nI (cn σ 55 + 1))) := by
        show f_X12_complain_b36_body N _ _ 100 (nI f) (nI s) 0 (nI (cn σ 55)) = _
        unfold f_X12_complain_b36_body
        rw [RS.gi H1, obs, hQ.1, if_pos (nI_le (Nat.le_refl _) (by omega)), if_pos rfl, obs, if_neg hq, rg56 H1, obs, obs, w1.1, obs, rg57 w1.2, obs, RS.gi w1.2, obs, cc1, w2.1, obs, rg58 w2.2, obs, RS.gi w2.2, obs, cc2, tm, obs, oI_s, w3.1, obs, rg59 w3.2, obs, RS.gi w3.2, obs, cc3, w4.1, obs, rg60 w4.2, obs, RS.gi w4.2, obs, cc4, w5.1, obs, RS.gi w5.2, obs, cc5, nI_1, w5.2.pi, obs, RS.gi w6, obs, s1_eq, nI_pred]
      have S1 : kd (sai (ta21 h σ (nI f) (nI s) (nI t) 0) 37 (5 * (cn σ 55) + 4) (-1)) 9000 = 30 ∧ ln (sai (ta21 h σ (nI f) (nI s) (nI t) 0) 37 (5 * (cn σ 55) + 4) (-1)) 9000 = L ∧ ai (sai (ta21 h σ (nI f) (nI s) (nI t) 0) 37 (5 * (cn σ 55) + 4) (-1)) 9000 = xs := by
        refine ⟨S.1, S.2.1, ?_⟩
        rw [ai_sai_ne (by omega)]
        show ai (sai (sai (sai (sai h 37 (5 * (cn σ 55)) (nI f)) 37 (5 * (cn σ 55) + 1) (nI s)) 37 (5 * (cn σ 55) + 2) (nI t)) 37 (5 * (cn σ 55) + 3) 0) 9000 = xs
        rw [ai_sai_ne (by omega), ai_sai_ne (by omega), ai_sai_ne (by omega), ai_sai_ne (by omega)]
        exact S.2.2
      have hg : ∀ k, k ≠ 56 → k ≠ 57 → k ≠ 58 → k ≠ 59 → k ≠ 60 → (s2 (ts21 σ (nI f) (nI s) (nI t) 0) 60 (cn σ 55) (-1)).2 k = σ.2 k := by
        intro k h0 h1 h2 h3 h4
        rw [s2_row h4]
        show (s2 (s2 (s2 (s2 σ 56 (cn σ 55) (nI f)) 57 (cn σ 55) (nI s)) 58 (cn σ 55) (nI t)) 59 (cn σ 55) 0).2 k = σ.2 k
        rw [s2_row h3, s2_row h2, s2_row h1, s2_row h0]
      have h55 : cn (s2 (ts21 σ (nI f) (nI s) (nI t) 0) 60 (cn σ 55) (-1)) 55 = cn σ 55 + 1 := cn_eq (show (s1 σ 55 (nI (cn σ 55 + 1))).1 55 = nI (cn σ 55 + 1) from s1_eq) (by omega)
      have X' : WX (s2 (ts21 σ (nI f) (nI s) (nI t) 0) 60 (cn σ 55) (-1)) (n + 1) := by
        obtain ⟨y1, y2, y3, y4, y5, y6, y7⟩ := X1
        refine ⟨?_, y2, ?_, y4, ?_, ?_, ?_⟩
        · rw [hg 32 (by decide) (by decide) (by decide) (by decide) (by decide), hg 31 (by decide) (by decide) (by decide) (by decide) (by decide), hg 34 (by decide) (by decide) (by decide) (by decide) (by decide)]; exact y1
        · rw [hg 62 (by decide) (by decide) (by decide) (by decide) (by decide)]; exact y3
        · rw [hg 66 (by decide) (by decide) (by decide) (by decide) (by decide), hg 67 (by decide) (by decide) (by decide) (by decide) (by decide)]; exact y5
        · intro j hj
          rw [h55] at hj
          rw [s2_ite]
          by_cases ej : j = cn σ 55
          · rw [if_pos ⟨rfl, ej⟩]; exact ⟨0, by omega, by decide⟩
          · rw [if_neg (fun z => ej z.2)]
            have : (ts21 σ (nI f) (nI s) (nI t) 0).2 60 = σ.2 60 := by
              show (s2 (s2 (s2 (s2 σ 56 (cn σ 55) (nI f)) 57 (cn σ 55) (nI s)) 58 (cn σ 55) (nI t)) 59 (cn σ 55) 0).2 60 = σ.2 60
              rw [s2_row (by decide), s2_row (by decide), s2_row (by decide), s2_row (by decide)]
            rw [this]
            exact y6 j (by omega)
        · exact ⟨by rw [hg 71 (by decide) (by decide) (by decide) (by decide) (by decide)]; exact y7.1, y7.2⟩
      refine ⟨nI (cn σ 55), _, _, s2 (ts21 σ (nI f) (nI s) (nI t) 0) 60 (cn σ 55) (-1), tr, u, ?_, ?_, S1, I.st C2 (((((FRc.a (r := 156) (by omega) (by omega)).trans (FRc.a (r := 157) (by omega) (by omega))).trans (FRc.a (r := 158) (by omega) (by omega))).trans ((FRc.a (r := 159) (by omega) (by omega)).trans (FRc.a (r := 160) (by omega) (by omega)))).trans FRc.f) w6 (W1.of (fun _ _ => rfl) (vs2_row (by decide)) (W1.2.1.w2_n (by decide)) W1.2.2.1) X' S1 (by omega)⟩
      · simp (disch := omega) only [f_X11_complain, obs, b10, b01, bm, if_true_, if_false_, eq_self, not_true_eq_false, not_false_eq_true, true_or, or_true, or_false, false_or, and_true, true_and, and_false, false_and, or_self, and_self, Bool.false_eq_true, ite_self, n25, n20, n24, n100, kk1 C, RS.kk H, c_isGauge C W.1, c_isTerm C W.1, c_isFarm C W.1, c_isSeason, c_isPlace, r_isGauge H W.1, r_isTerm H W.1, r_isFarm H W.1, r_isSeason, r_isWeek, r_isPlace, r_isSheet, ci1, ri1, ci2, ri2, ci3, ri3, ci4, ri4, ci5, ri5, ci11, ri11, ci16, ri16, ci98, ri98, ci99, ri99, ci198, ri198, ci9999, ri9999, oa, ob, t1, oI_s, oI_n, nI_negF, kr1_11 C, kr1_11 C1, e1, kfull21 C W.1, q, a1, p1]
      · have t2' := r_termOf (N := N) H1 W (f := f) (s := nI s) (by omega)
        rw [e] at t2'
        simp (disch := omega) only [f_X12_complain, f_X12_complain_b32, obs, b10, b01, bm, if_true_, if_false_, eq_self, not_true_eq_false, not_false_eq_true, true_or, or_true, or_false, false_or, and_true, true_and, and_false, false_and, or_self, and_self, Bool.false_eq_true, ite_self, n25, n20, n24, n100, RS.kk H1, r_isFarm H1 W.1, r_isSeason, oa, ob, t2', oI_s, nI_negF, r2, r3]
  · have hc := plO_lt e3
    rw [e3] at e1
    have hz : ¬ itr (hsS σ f s) 0 (cn σ 55) 0 = 0 := fun z => by
      have : plO σ f s = none := hs_eq.mp z
      rw [e3] at this
      cases this
    have r2 := lp h H 0 (fun x => f_X12_complain_b36 N 1 h 100 (nI f) (nI s) x (nI (cn σ 55))) (exq h H)
    rw [ex1 h H 0 _ hz] at r2
    exact ⟨-3, h, h, σ, tr, u, by simp (disch := omega) only [f_X11_complain, obs, b10, b01, bm, if_true_, if_false_, eq_self, not_true_eq_false, not_false_eq_true, true_or, or_true, or_false, false_or, and_true, true_and, and_false, false_and, or_self, and_self, Bool.false_eq_true, ite_self, n25, n20, n24, n100, kk1 C, RS.kk H, c_isGauge C W.1, c_isTerm C W.1, c_isFarm C W.1, c_isSeason, c_isPlace, r_isGauge H W.1, r_isTerm H W.1, r_isFarm H W.1, r_isSeason, r_isWeek, r_isPlace, r_isSheet, ci1, ri1, ci2, ri2, ci3, ri3, ci4, ri4, ci5, ri5, ci11, ri11, ci16, ri16, ci98, ri98, ci99, ri99, ci198, ri198, ci9999, ri9999, oa, ob, t1, oI_s, nI_negF, kr1_11 C, e1], by simp (disch := omega) only [f_X12_complain, f_X12_complain_b32, obs, b10, b01, bm, if_true_, if_false_, eq_self, not_true_eq_false, not_false_eq_true, true_or, or_true, or_false, false_or, and_true, true_and, and_false, false_and, or_self, and_self, Bool.false_eq_true, ite_self, n25, n20, n24, n100, kk1 C, RS.kk H, c_isGauge C W.1, c_isTerm C W.1, c_isFarm C W.1, c_isSeason, c_isPlace, r_isGauge H W.1, r_isTerm H W.1, r_isFarm H W.1, r_isSeason, r_isWeek, r_isPlace, r_isSheet, ci1, ri1, ci2, ri2, ci3, ri3, ci4, ri4, ci5, ri5, ci11, ri11, ci16, ri16, ci98, ri98, ci99, ri99, ci198, ri198, ci9999, ri9999, oa, ob, t2, oI_s, nI_negF, r2], S, I.up (by omega)⟩
end
