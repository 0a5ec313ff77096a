/-! ===== covers, what is due ===== -/
theorem wv1 {σ : SG} (W : WV σ) {j : Nat} (hj : j < cn σ 0) : bd (σ.2 1 j) (100) := W.2.1 (1, 0, 200) (by decide) j hj
theorem wv2 {σ : SG} (W : WV σ) {j : Nat} (hj : j < cn σ 0) : bd (σ.2 2 j) (100) := W.2.1 (2, 0, 200) (by decide) j hj
theorem wv3 {σ : SG} (W : WV σ) {j : Nat} (hj : j < cn σ 0) : bd (σ.2 3 j) (16) := W.2.1 (3, 0, 116) (by decide) j hj
theorem wv4 {σ : SG} (W : WV σ) {j : Nat} (hj : j < cn σ 0) : bd (σ.2 4 j) (17) := W.2.1 (4, 0, 117) (by decide) j hj
theorem wv27 {σ : SG} (W : WV σ) {j : Nat} (hj : j < cn σ 26) : bd (σ.2 27 j) (100) := W.2.1 (27, 26, 200) (by decide) j hj
theorem wv28 {σ : SG} (W : WV σ) {j : Nat} (hj : j < cn σ 26) : bd (σ.2 28 j) (100) := W.2.1 (28, 26, 200) (by decide) j hj
theorem wv29 {σ : SG} (W : WV σ) {j : Nat} (hj : j < cn σ 26) : bd (σ.2 29 j) (4) := W.2.1 (29, 26, 104) (by decide) j hj
theorem wv30 {σ : SG} (W : WV σ) {j : Nat} (hj : j < cn σ 26) : bd (σ.2 30 j) (100) := W.2.1 (30, 26, 200) (by decide) j hj
theorem wv33 {σ : SG} (W : WV σ) {j : Nat} (hj : j < cn σ 26) : bd (σ.2 33 j) (3) := W.2.1 (33, 26, 103) (by decide) j hj
theorem wv35 {σ : SG} (W : WV σ) {j : Nat} (hj : j < 4) : bd (σ.2 35 j) (6) := W.2.1 (35, 104, 106) (by decide) j hj
theorem wv37 {σ : SG} (W : WV σ) {j : Nat} (hj : j < cn σ 36) : bd (σ.2 37 j) (cn σ 26) := W.2.1 (37, 36, 26) (by decide) j hj
theorem wv38 {σ : SG} (W : WV σ) {j : Nat} (hj : j < cn σ 36) : bd (σ.2 38 j) (cn σ 13) := W.2.1 (38, 36, 13) (by decide) j hj
theorem wv39 {σ : SG} (W : WV σ) {j : Nat} (hj : j < cn σ 36) : bd (σ.2 39 j) (16) := W.2.1 (39, 36, 116) (by decide) j hj
theorem wv40 {σ : SG} (W : WV σ) {j : Nat} (hj : j < cn σ 36) : bd (σ.2 40 j) (17) := W.2.1 (40, 36, 117) (by decide) j hj
theorem wv42 {σ : SG} (W : WV σ) {j : Nat} (hj : j < cn σ 41) : bd (σ.2 42 j) (cn σ 26) := W.2.1 (42, 41, 26) (by decide) j hj
theorem wv43 {σ : SG} (W : WV σ) {j : Nat} (hj : j < cn σ 41) : bd (σ.2 43 j) (16) := W.2.1 (43, 41, 116) (by decide) j hj
theorem wv44 {σ : SG} (W : WV σ) {j : Nat} (hj : j < cn σ 41) : bd (σ.2 44 j) (10000) := W.2.1 (44, 41, 10100) (by decide) j hj
theorem wv45 {σ : SG} (W : WV σ) {j : Nat} (hj : j < cn σ 41) : bd (σ.2 45 j) (10000) := W.2.1 (45, 41, 10100) (by decide) j hj
theorem wv47 {σ : SG} (W : WV σ) {j : Nat} (hj : j < cn σ 46) : bd (σ.2 47 j) (100) := W.2.1 (47, 46, 200) (by decide) j hj
theorem wv48 {σ : SG} (W : WV σ) {j : Nat} (hj : j < cn σ 46) : bd (σ.2 48 j) (100) := W.2.1 (48, 46, 200) (by decide) j hj
theorem wv50 {σ : SG} (W : WV σ) {j : Nat} (hj : j < cn σ 49) : bd (σ.2 50 j) (cn σ 26) := W.2.1 (50, 49, 26) (by decide) j hj
theorem wv51 {σ : SG} (W : WV σ) {j : Nat} (hj : j < cn σ 49) : bd (σ.2 51 j) (16) := W.2.1 (51, 49, 116) (by decide) j hj
theorem wv52 {σ : SG} (W : WV σ) {j : Nat} (hj : j < cn σ 49) : bd (σ.2 52 j) (990000) := W.2.1 (52, 49, 990100) (by decide) j hj
theorem wv53 {σ : SG} (W : WV σ) {j : Nat} (hj : j < cn σ 49) : bd (σ.2 53 j) (4) := W.2.1 (53, 49, 104) (by decide) j hj
theorem wv56 {σ : SG} (W : WV σ) {j : Nat} (hj : j < cn σ 55) : bd (σ.2 56 j) (cn σ 26) := W.2.1 (56, 55, 26) (by decide) j hj
theorem wv57 {σ : SG} (W : WV σ) {j : Nat} (hj : j < cn σ 55) : bd (σ.2 57 j) (16) := W.2.1 (57, 55, 116) (by decide) j hj
theorem wv58 {σ : SG} (W : WV σ) {j : Nat} (hj : j < cn σ 55) : bd (σ.2 58 j) (cn σ 13) := W.2.1 (58, 55, 13) (by decide) j hj
theorem wv59 {σ : SG} (W : WV σ) {j : Nat} (hj : j < cn σ 55) : bd (σ.2 59 j) (3) := W.2.1 (59, 55, 103) (by decide) j hj
def covP (σ : SG) (f : Nat) (s : Int32) (c : Nat) : Bool := decide (σ.2 37 c = nI f) && (!decide (s < σ.2 39 c) && !decide (σ.2 40 c ≤ s))
def coverO (σ : SG) (f : Nat) (s : Int32) : Option Nat := fnd (fun c => covP σ f s c = true) 0 (cn σ 36)
def termO (σ : SG) (f : Nat) (s : Int32) : Option Nat := (coverO σ f s).map (fun c => (σ.2 38 c).toNatClampNeg)
def plantO (σ : SG) (f : Nat) : Nat := (σ.2 35 ((σ.2 27 f).toNatClampNeg / 25)).toNatClampNeg
def cropO (σ : SG) (f : Nat) : Nat := (σ.2 29 f).toNatClampNeg
def payAt (σ : SG) (R G : Nat → Int32) (g s t p k : Nat) : Int32 := payW σ (wetR σ R g (fun _ => s)) (lushR σ G g (fun _ => s)) t p (σ.2 25 k)
def farmPayO (σ : SG) (R G : Nat → Int32) (f s t : Nat) : Int32 := match gaugeOf σ f (nI s) with
  | none => 0
  | some g => payAt σ R G g s t (plantO σ f) (cropO σ f)
def dueO (σ : SG) (R G : Nat → Int32) (f s : Nat) : Int32 := match termO σ f (nI s) with
  | none => 0
  | some t => σ.2 30 f * farmPayO σ R G f s t
section
variable {h h' : AH} {σ : SG} {tr : Nat → Nat} {u N : Nat} {R G : Nat → Int32} {tb : Nat}
theorem bd_cl {x : Int32} {n : Nat} (h : bd x n) (hn : n ≤ 2 ^ 31) : x = nI x.toNatClampNeg ∧ x.toNatClampNeg < n := by
  obtain ⟨k, hk, rfl⟩ := h
  rw [nI_clamp (by omega)]
  exact ⟨rfl, hk⟩
theorem coverO_lt {f c : Nat} {s : Int32} (e : coverO σ f s = some c) : c < cn σ 36 := by
  have := (fnd_lt e).1
  omega
theorem termO_lt (W : WV σ) {f t : Nat} {s : Int32} (e : termO σ f s = some t) : t < cn σ 13 := by
  unfold termO at e
  rcases e2 : coverO σ f s with _ | c
  · rw [e2] at e; cases e
  · rw [e2] at e
    cases e
    exact (bd_cl (wv38 W (j := c) (coverO_lt e2)) (by have := W.1.t; omega)).2
theorem termO_n {f : Nat} {s : Int32} : termO σ f s = none ↔ coverO σ f s = none := by
  unfold termO
  cases coverO σ f s <;> simp
theorem r_coverOf (H : RS h σ) (W : CT σ) {f : Nat} {s : Int32} (hN : 100 < N) : f_X12_coverOf h N 100 (nI f) s = some (oI (coverO σ f s)) := by
  have hC := W.c
  unfold f_X12_coverOf
  rw [if_pos H.1]
  refine lpF (fun n i => f_X12_coverOf_b2 h N n 100 (nI f) s (nI i)) (fun c => covP σ f s c = true) (cn σ 36) (fun o => some (oI o)) ?_ ?_ (m := cn σ 36) (i := 0) (by omega) (by omega)
  · intro n
    simp (disch := omega) only [f_X12_coverOf_b2, f_X12_coverOf_b2_body, obs, b10, b01, bm, if_true_, if_false_, eq_self, not_true_eq_false, not_false_eq_true, true_or, or_true, or_false, false_or, and_true, true_and, and_false, false_and, or_self, and_self, Bool.false_eq_true, ite_self, n25, n20, n24, n100, RS.gi H, hC.1, nI_leI, Nat.le_refl, oI_n]
  · intro n i hi
    have hn : ¬ cn σ 36 ≤ i := by omega
    by_cases q1 : σ.2 37 i = nI f <;> by_cases q2 : s < σ.2 39 i <;> by_cases q3 : σ.2 40 i ≤ s <;> simp (disch := omega) only [f_X12_coverOf_b2, f_X12_coverOf_b2_body, f_X12_coverOf_b42, obs, b10, b01, bm, if_true_, if_false_, eq_self, not_true_eq_false, not_false_eq_true, true_or, or_true, or_false, false_or, and_true, true_and, and_false, false_and, or_self, and_self, Bool.false_eq_true, ite_self, n25, n20, n24, n100, RS.gi H, hC.1, nI_leI, hn, rg37 H, ra37 H, rg39 H, ra39 H, rg40 H, ra40 H, q1, q2, q3, covP, oI_s, nI_1, decide_true, decide_false, Bool.not_true, Bool.not_false, Bool.and_true, Bool.and_false, Bool.true_and, Bool.false_and]
theorem c_coverOf (C : CS h σ tr u) (W : CT σ) {f : Nat} {s : Int32} (hN : 100 < N) : f_X11_coverOf h N 1 (nI f) s = some (oI (coverO σ f s)) := by
  have hC := W.c
  unfold f_X11_coverOf
  rw [if_pos (kk1 C)]
  refine lpF (fun n i => f_X11_coverOf_b2 h N n 1 (nI f) s (nI i)) (fun c => covP σ f s c = true) (cn σ 36) (fun o => some (oI o)) ?_ ?_ (m := cn σ 36) (i := 0) (by omega) (by omega)
  · intro n
    simp (disch := omega) only [f_X11_coverOf_b2, f_X11_coverOf_b2_body, obs, b10, b01, bm, if_true_, if_false_, eq_self, not_true_eq_false, not_false_eq_true, true_or, or_true, or_false, false_or, and_true, true_and, and_false, false_and, or_self, and_self, Bool.false_eq_true, ite_self, n25, n20, n24, n100, kr1_8 C, ki18_3 C, hC.1, nI_leI, Nat.le_refl, oI_n]
  · intro n i hi
    have hn : ¬ cn σ 36 ≤ i := by omega
    by_cases q1 : σ.2 37 i = nI f <;> by_cases q2 : s < σ.2 39 i <;> by_cases q3 : σ.2 40 i ≤ s <;> simp (disch := omega) only [f_X11_coverOf_b2, f_X11_coverOf_b2_body, f_X11_coverOf_b54, obs, b10, b01, bm, if_true_, if_false_, eq_self, not_true_eq_false, not_false_eq_true, true_or, or_true, or_false, false_or, and_true, true_and, and_false, false_and, or_self, and_self, Bool.false_eq_true, ite_self, n25, n20, n24, n100, kr1_8 C, ki18_3 C, hC.1, nI_leI, hn, ka18_0 C, ka18_1 C, ka18_3 C, q1, q2, q3, covP, oI_s, nI_1, decide_true, decide_false, Bool.not_true, Bool.not_false, Bool.and_true, Bool.and_false, Bool.true_and, Bool.false_and]
theorem termO_s (W : WV σ) {f c : Nat} {s : Int32} (e : coverO σ f s = some c) : σ.2 38 c = oI (termO σ f s) := by
  unfold termO
  rw [e]
  exact (bd_cl (wv38 W (j := c) (coverO_lt e)) (by have := W.1.t; omega)).1
theorem r_termOf (H : RS h σ) (W : WV σ) {f : Nat} {s : Int32} (hN : 100 < N) : f_X12_termOf h N 100 (nI f) s = some (oI (termO σ f s)) := by
  have hC := W.1.c
  unfold f_X12_termOf
  rw [if_pos H.1, r_coverOf H W.1 hN, obs]
  rcases e : coverO σ f s with _ | c
  · rw [termO_n.mpr e]; rfl
  · have hc := coverO_lt e
    rw [oI_s, if_neg (nI_neg (by omega)), rg38 H, obs, ra38 H (by omega), obs, termO_s W e]
theorem c_termOf (C : CS h σ tr u) (W : WV σ) {f : Nat} {s : Int32} (hN : 100 < N) : f_X11_termOf h N 1 (nI f) s = some (oI (termO σ f s)) := by
  have hC := W.1.c
  unfold f_X11_termOf
  rw [if_pos (kk1 C), c_coverOf C W.1 hN, obs]
  rcases e : coverO σ f s with _ | c
  · rw [termO_n.mpr e]; rfl
  · have hc := coverO_lt e
    rw [oI_s, if_neg (nI_neg (by omega)), kr1_8 C, obs, ka18_2 C (by omega), obs, termO_s W e]
theorem AL0 (W : WV σ) {s : Nat} (hs : s < 16) : AL σ s (fun _ => s) := by
  intro w hw
  have := W.2.2.2.2.1.2.2
  rw [this, if_pos (by rw [lt12]; exact nI_lt hw (by decide))]
  exact ⟨rfl, hs⟩
theorem TB0 (W : WV σ) : TB σ 0 (vK σ (cn σ 7)) (GK σ (cn σ 7)) := by
  obtain ⟨-, h1, h2⟩ := W.2.2.2.1
  refine ⟨by omega, fun c hc => ?_, fun c hc => ?_⟩
  · rw [Nat.mul_zero, Nat.zero_add, h1 c hc]
    unfold vK
    rw [Nat.min_self]
  · rw [Nat.mul_zero, Nat.zero_add, h2 c hc]
    unfold GK vK
    rw [Nat.min_self]
theorem dist_lt (W : WV σ) {f : Nat} (hf : f < cn σ 26) : (σ.2 27 f).toNatClampNeg / 25 < 4 ∧ σ.2 27 f / 25 = nI ((σ.2 27 f).toNatClampNeg / 25) := by
  obtain ⟨e, hx⟩ := bd_cl (wv27 W (j := f) hf) (by decide)
  have hx' : (σ.2 27 f).toNatClampNeg < 100 := hx
  refine ⟨by omega, ?_⟩
  generalize (σ.2 27 f).toNatClampNeg = x at e hx'
  rw [e, lt25, nI_div (by omega) (by decide)]
theorem plantO_lt (W : WV σ) {f : Nat} (hf : f < cn σ 26) : plantO σ f < 6 ∧ σ.2 35 ((σ.2 27 f).toNatClampNeg / 25) = nI (plantO σ f) := by
  obtain ⟨e, hx⟩ := bd_cl (wv35 W (j := ((σ.2 27 f).toNatClampNeg / 25)) (dist_lt W hf).1) (by decide)
  exact ⟨hx, e⟩
theorem cropO_lt (W : WV σ) {f : Nat} (hf : f < cn σ 26) : cropO σ f < 4 ∧ σ.2 29 f = nI (cropO σ f) := by
  obtain ⟨e, hx⟩ := bd_cl (wv29 W (j := f) hf) (by decide)
  exact ⟨hx, e⟩
theorem r_plantOf (H : RS h σ) (W : WV σ) {f : Nat} (hf : f < cn σ 26) : f_X12_plantOf h 100 (nI f) = some (nI (plantO σ f)) := by
  have hF := W.1.f
  obtain ⟨d1, d2⟩ := dist_lt W hf
  unfold f_X12_plantOf
  rw [if_pos H.1, rg35 H, obs, rg27 H, obs, ra27 H (by omega), obs, n25, d2, ra35 H d1, obs, (plantO_lt W hf).2]
theorem r_farmPay (H : RS h σ) (W : WV σ) (T : TB σ tb R G) {f s t : Nat} (hf : f < cn σ 26) (hs : s < 16) (ht : t < cn σ 13) (hN : 100 < N) : f_X12_farmPay h N 100 (nI tb) (nI f) (nI s) (nI t) = some (farmPayO σ R G f s t) := by
  have hF := W.1.f
  have hG := W.1.g
  have hT := W.1.t
  unfold f_X12_farmPay farmPayO
  rw [if_pos H.1, r_gaugeOf H W.1 (by omega) hN, obs]
  rcases e : gaugeOf σ f (nI s) with _ | g
  · rfl
  · have hg := gaugeOf_lt e
    rw [oI_s, if_neg (nI_neg (by omega)), r_plantOf H W hf, obs, rg29 H, obs, ra29 H (by omega), obs, (cropO_lt W hf).2, r_payOf H W.1 T (AL0 W hs) (by omega) (wv1 W (j := g) hg) (by omega) (W.2.2.2.2.2 t ht) (plantO_lt W hf).1 (cropO_lt W hf).1 hN, obs]
    rfl
theorem r_dueOf (H : RS h σ) (W : WV σ) (T : TB σ tb R G) {f s : Nat} (hf : f < cn σ 26) (hs : s < 16) (hN : 100 < N) : f_X12_dueOf h N 100 (nI tb) (nI f) (nI s) = some (dueO σ R G f s) := by
  have hF := W.1.f
  have hT := W.1.t
  unfold f_X12_dueOf dueO
  rw [if_pos H.1, r_termOf H W hN, obs]
  rcases e : termO σ f (nI s) with _ | t
  · rfl
  · have ht := termO_lt W e
    rw [oI_s, if_neg (nI_neg (by omega)), rg30 H, obs, ra30 H (by omega), obs, r_farmPay H W T hf hs ht hN, obs]
theorem c_district (C : CS h σ tr u) (W : WV σ) {f : Nat} (hf : f < cn σ 26) : f_X2_district h (300 + f) = some (nI ((σ.2 27 f).toNatClampNeg / 25)) := by
  unfold f_X2_district
  rw [if_pos (kd300 C hf), kf300_1 C hf, obs, n25, (dist_lt W hf).2]
theorem c_kind (C : CS h σ tr u) (W : WV σ) {f : Nat} (hf : f < cn σ 26) : (if kd h (360 + f) = 2 then f_X0_kind h (360 + f) else if kd h (360 + f) = 3 then f_X1_kind h (360 + f) else if kd h (360 + f) = 6 then f_X4_kind h (360 + f) else if kd h (360 + f) = 7 then f_X5_kind h (360 + f) else none) = some (nI (cropO σ f)) := by
  obtain ⟨c1, c2⟩ := cropO_lt W hf
  have e := (C.2.2.2.2.1.1 f hf).1.1
  rw [c2] at e
  unfold f_X0_kind f_X1_kind f_X4_kind f_X5_kind
  generalize cropO σ f = k at c1 e
  have k4 : k = 0 ∨ k = 1 ∨ k = 2 ∨ k = 3 := by omega
  rcases k4 with rfl | rfl | rfl | rfl
  · rw [show crK (nI 0) = 3 by decide] at e; simp [e]; rfl
  · rw [show crK (nI 1) = 6 by decide] at e; simp [e]; rfl
  · rw [show crK (nI 2) = 7 by decide] at e; simp [e]; rfl
  · rw [show crK (nI 3) = 2 by decide] at e; simp [e]; rfl
theorem c_payOf (C : CS h σ tr u) (W : WV σ) {f s t kk : Nat} (hf : f < cn σ 26) (hs : s < 16) (ht : t < cn σ 13) (hk : kk < 2 ^ 31) (hN : 1000 < N) :
    ∃ h', f_X11_payOf h N 1 (300 + f) (nI s) (nI t) (nI kk) = some (farmPayO σ (vK σ kk) (GK σ kk) f s t, h') ∧ SCR h h' ∧ ai h' 28 = ai h 28 ∧ ai h' 29 = ai h 29 := by
  have hG := W.1.g
  unfold f_X11_payOf farmPayO
  rw [if_pos (kk1 C), c_gaugeOf C W hf (by omega), obs]
  rcases e : gaugeOf σ f (nI s) with _ | g
  · exact ⟨h, rfl, SCR.refl, rfl, rfl⟩
  · have hg := gaugeOf_lt e
    obtain ⟨h', e1, e2⟩ := c_payOn (N := N) C W ht hg hs (plantO_lt W hf).1 (cropO_lt W hf).1 hk hN
    refine ⟨h', ?_, e2⟩
    rw [oI_s, if_neg (nI_neg (by omega)), kr1_7 C, obs, c_district C W hf, obs, kx17 C (dist_lt W hf).1, obs, kq300_4 C hf, obs, c_kind C W hf, obs, (plantO_lt W hf).2, e1, obs]
    rfl
theorem c_dueOf (C : CS h σ tr u) (W : WV σ) {f s kk : Nat} (hf : f < cn σ 26) (hs : s < 16) (hk : kk < 2 ^ 31) (hN : 1000 < N) :
    ∃ h', f_X11_dueOf h N 1 (300 + f) (nI s) (nI kk) = some (dueO σ (vK σ kk) (GK σ kk) f s, h') ∧ SCR h h' ∧ ai h' 28 = ai h 28 ∧ ai h' 29 = ai h 29 := by
  have hT := W.1.t
  unfold f_X11_dueOf dueO
  rw [if_pos (kk1 C), kf300_0 C hf, obs, c_termOf C W (by omega), obs]
  rcases e : termO σ f (nI s) with _ | t
  · exact ⟨h, rfl, SCR.refl, rfl, rfl⟩
  · have ht := termO_lt W e
    obtain ⟨h', e1, e2⟩ := c_payOf (N := N) C W hf hs ht hk hN
    refine ⟨h', ?_, e2⟩
    rw [oI_s, if_neg (nI_neg (by omega)), kf300_3 C hf, obs, e1, obs]
end
