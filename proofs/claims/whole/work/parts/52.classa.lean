/-! ===== what always holds of the values ===== -/
def wR : List (Nat × Nat × Nat) := [(1, 0, 200), (2, 0, 200), (3, 0, 116), (4, 0, 117), (27, 26, 200), (28, 26, 200), (29, 26, 104), (30, 26, 200), (33, 26, 103), (35, 104, 106), (37, 36, 26), (38, 36, 13), (39, 36, 116), (40, 36, 117), (42, 41, 26), (43, 41, 116), (44, 41, 10100), (45, 41, 10100), (47, 46, 200), (48, 46, 200), (50, 49, 26), (51, 49, 116), (52, 49, 990100), (53, 49, 104), (56, 55, 26), (57, 55, 116), (58, 55, 13), (59, 55, 103)]
def WR (σ : SG) : Prop := ∀ q ∈ wR, ∀ j, j < ct σ q.2.1 → bd (σ.2 q.1 j) (ct σ q.2.2)
def WL (σ : SG) : Prop := bd (σ.2 5 0) 199 ∧ bd (σ.2 5 1) 10000 ∧ bd (σ.2 5 2) 301 ∧ bd (σ.2 5 3) 101
def WT (σ : SG) : Prop := (∀ i, i < cn σ 7 → cix σ i < 2304 ∧ (σ.2 8 i = 0 ∨ σ.2 8 i = 1) ∧ bd (σ.2 9 i) (if σ.2 8 i = 0 then 1536 else 768) ∧ bd (σ.2 10 i + 1) 10001) ∧
  (∀ c, c < 1536 → σ.2 11 c = vAt σ (cn σ 7) c) ∧ ∀ c, c < 768 → σ.2 12 c = vAt σ (cn σ 7) (1536 + c)
def WQ (σ : SG) : Prop := (∀ j, j < 4 → σ.2 25 j = DRYL.getD j 0) ∧ (∀ j, j < 4 → σ.2 6 j = MOSL.getD j 0) ∧ σ.1 73 = 12
def WV (σ : SG) : Prop := CT σ ∧ WR σ ∧ WL σ ∧ WT σ ∧ WQ σ ∧ ∀ t, t < cn σ 13 → TW σ t
theorem bd_apt {a b : Int32} (ha : bd a 100) (hb : bd b 100) : bd (apt a b) 100 := by
  obtain ⟨x, hx, rfl⟩ := ha
  obtain ⟨y, hy, rfl⟩ := hb
  unfold apt
  by_cases q : y ≤ x
  · rw [if_pos ((nI_leI (by omega) (by omega)).mpr q), nI_sub q]
    exact ⟨x - y, by omega, rfl⟩
  · rw [if_neg (fun c => q ((nI_leI (by omega) (by omega)).mp c)), nI_sub (by omega)]
    exact ⟨y - x, by omega, rfl⟩
theorem bd_dst {a b c d : Int32} (ha : bd a 100) (hb : bd b 100) (hc : bd c 100) (hd : bd d 100) : bd (dst a b c d) 199 := by
  obtain ⟨x, hx, ex⟩ := bd_apt ha hc
  obtain ⟨y, hy, ey⟩ := bd_apt hb hd
  unfold dst
  rw [ex, ey, nI_add]
  exact ⟨x + y, by omega, rfl⟩
/-! ===== the class's plain questions ===== -/
theorem cin_ok {h : AH} {v hi : Int32} {n : Nat} (hn : n < 2 ^ 31) (e : hi.toInt = (n : Int) - 1) : f_X11_within h v 0 hi = some (if ok v n then 1 else 0) := in_ok (h := h) hn e
theorem cin_ok1 {h : AH} {v : Int32} {n : Nat} (hn : n < 2 ^ 31) : f_X11_within h v 0 (nI n - 1) = some (if ok v n then 1 else 0) := cin_ok hn (nI_m1 hn)
theorem c_isSeason {h : AH} {v : Int32} : f_X11_isSeason h v = some (if ok v 16 then 1 else 0) := by
  unfold f_X11_isSeason
  rw [cin_ok (n := 16) (by decide) (by decide), obs, if_pos (by rw [zi2]; trivial)]
theorem c_isPlace {h : AH} {x y : Int32} : f_X11_isPlace h x y = some (if ok x 100 ∧ ok y 100 then 1 else 0) := by
  unfold f_X11_isPlace
  rw [cin_ok (n := 100) (by decide) (by decide), obs, cin_ok (n := 100) (by decide) (by decide), obs]
  rcases ok x 100 <;> rcases ok y 100 <;> decide
section
variable {h : AH} {σ : SG} {tr : Nat → Nat} {u N : Nat}
theorem c_isGauge (C : CS h σ tr u) (W : CT σ) {v : Int32} : f_X11_isGauge h 1 v = some (if ok v (cn σ 0) then 1 else 0) := by
  have := W.g
  unfold f_X11_isGauge
  rw [if_pos (kk1 C), kr1_0 C, obs, kz10 C, obs, this.1, cin_ok1 (by omega), obs, if_pos (by rw [zi2]; trivial)]
theorem c_isTerm (C : CS h σ tr u) (W : CT σ) {v : Int32} : f_X11_isTerm h 1 v = some (if ok v (cn σ 13) then 1 else 0) := by
  have := W.t
  unfold f_X11_isTerm
  rw [if_pos (kk1 C), kr1_1 C, obs, kz11 C, obs, this.1, cin_ok1 (by omega), obs, if_pos (by rw [zi2]; trivial)]
theorem c_isFarm (C : CS h σ tr u) (W : CT σ) {v : Int32} : f_X11_isFarm h 1 v = some (if ok v (cn σ 26) then 1 else 0) := by
  have := W.f
  unfold f_X11_isFarm
  rw [if_pos (kk1 C), kr1_2 C, obs, kz12 C, obs, this.1, cin_ok1 (by omega), obs, if_pos (by rw [zi2]; trivial)]
theorem c_distance {h : AH} {a b c d : Int32} : f_X11_distance h a b c d = some (dst a b c d) := by
  have h1 : ∀ x, f_X11_distance_b14 h b d x = some (x + apt b d) := by
    intro x
    unfold f_X11_distance_b14 f_X11_distance_b30 apt
    rw [← apt_eq]
    by_cases q : b ≤ d
    · rw [if_pos q, if_pos q]
    · rw [if_neg q, if_neg q]
  unfold f_X11_distance dst
  rw [h1, h1]
  unfold apt
  rw [← apt_eq a c]
  by_cases q : a ≤ c
  · rw [if_pos q, if_pos q]
  · rw [if_neg q, if_neg q]
theorem c_standsIn (C : CS h σ tr u) {g : Nat} {s : Int32} (hg : g < cn σ 0) : f_X3_standsIn h (200 + g) s = some (if s < σ.2 3 g ∨ σ.2 4 g ≤ s then 0 else 1) := by
  by_cases q : s < σ.2 3 g <;> by_cases q2 : σ.2 4 g ≤ s <;> simp (disch := omega) only [f_X3_standsIn, obs, b10, b01, bm, if_true_, if_false_, eq_self, not_true_eq_false, not_false_eq_true, true_or, or_true, or_false, false_or, and_true, true_and, and_false, false_and, or_self, and_self, Bool.false_eq_true, ite_self, n25, n20, n24, n100, kd200 C, kf200_2 C, kf200_3 C, q, q2]
def ggL (σ : SG) (f : Nat) : Option Nat → Int32
  | none => 199
  | some b => farD σ f b
theorem c_gaugeOf (C : CS h σ tr u) (W : WV σ) {f : Nat} {s : Int32} (hf : f < cn σ 26) (hN : 100 < N) : f_X11_gaugeOf h N 1 (300 + f) s = some (oI (gaugeOf σ f s)) := by
  have hG := W.1.g
  unfold f_X11_gaugeOf
  rw [if_pos (kk1 C)]
  refine (lpA (fun n i a => f_X11_gaugeOf_b10 h N n 1 (300 + f) s (oI a) (ggL σ f a) (nI i)) (ggS σ f s) (cn σ 0) (fun a => some (oI a)) (fun i a => ∀ b, a = some b → b < i) ?_ ?_ (cn σ 0) N 0 none (by omega) (by omega) (by simp)).1
  · intro n a _
    simp (disch := omega) only [f_X11_gaugeOf_b10, f_X11_gaugeOf_b10_body, obs, b10, b01, bm, if_true_, if_false_, eq_self, not_true_eq_false, not_false_eq_true, true_or, or_true, or_false, false_or, and_true, true_and, and_false, false_and, or_self, and_self, Bool.false_eq_true, ite_self, n25, n20, n24, n100, kr1_0 C, kz10 C, hG.1, nI_leI, Nat.le_refl]
  · intro n i a hi ha
    have hn : ¬ cn σ 0 ≤ i := by omega
    refine ⟨?_, ?_⟩
    · rcases a with _ | b
      · have q2 : ¬ (199 : Int32) ≤ dst (σ.2 27 f) (σ.2 28 f) (σ.2 1 i) (σ.2 2 i) := by
          obtain ⟨x, hx, ex⟩ := bd_dst (W.2.1 (27, 26, 200) (by decide) f hf) (W.2.1 (28, 26, 200) (by decide) f hf) (W.2.1 (1, 0, 200) (by decide) i hi) (W.2.1 (2, 0, 200) (by decide) i hi)
          rw [ex, show (199 : Int32) = nI 199 by decide, nI_leI (by decide) (by omega)]
          omega
        by_cases q : s < σ.2 3 i ∨ σ.2 4 i ≤ s <;> simp (disch := omega) only [f_X11_gaugeOf_b10, f_X11_gaugeOf_b10_body, f_X11_gaugeOf_b82, obs, b10, b01, bm, if_true_, if_false_, eq_self, not_true_eq_false, not_false_eq_true, true_or, or_true, or_false, false_or, and_true, true_and, and_false, false_and, or_self, and_self, Bool.false_eq_true, ite_self, n25, n20, n24, n100, kr1_0 C, kz10 C, kg10 C W.1, kc200 C, kf300_1 C, kf300_2 C, kf200_0 C, kf200_1 C, c_distance, c_standsIn C, hG.1, nI_leI, hn, oI_n, oI_s, ggS, ggL, bt, farD, q, q2, nI_1]
      · have hb := ha b rfl
        by_cases q : s < σ.2 3 i ∨ σ.2 4 i ≤ s <;> by_cases q2 : farD σ f b ≤ farD σ f i <;> simp only [farD] at q2 <;> simp (disch := omega) only [f_X11_gaugeOf_b10, f_X11_gaugeOf_b10_body, f_X11_gaugeOf_b82, obs, b10, b01, bm, if_true_, if_false_, eq_self, not_true_eq_false, not_false_eq_true, true_or, or_true, or_false, false_or, and_true, true_and, and_false, false_and, or_self, and_self, Bool.false_eq_true, ite_self, n25, n20, n24, n100, kr1_0 C, kz10 C, kg10 C W.1, kc200 C, kf300_1 C, kf300_2 C, kf200_0 C, kf200_1 C, c_distance, c_standsIn C, hG.1, nI_leI, hn, oI_n, oI_s, ggS, ggL, bt, farD, q, q2, nI_1, decide_true, decide_false, Bool.not_true, Bool.not_false, Bool.false_eq_true]
    · intro b hb
      rcases ggS_or σ f s i a with e | e
      · rw [e] at hb; cases hb; omega
      · rw [e] at hb; have := ha b hb; omega
/-! ===== as it was known ===== -/
theorem lTl_le {σ : SG} {c : Nat} : ∀ {k : Nat}, lN_ σ k c ≤ k := by
  intro k
  induction k with
  | zero => exact Nat.le_refl 0
  | succ k ih =>
    unfold lN_
    split
    · exact Nat.le_refl _
    · omega
theorem lTl_cix {σ : SG} {c n : Nat} : ∀ {k : Nat}, lN_ σ k c = n + 1 → cix σ n = c := by
  intro k
  induction k with
  | zero => intro e; simp [lN_] at e
  | succ k ih =>
    intro e
    unfold lN_ at e
    split at e
    · rename_i q
      have : k = n := by omega
      rw [← this]; exact q
    · exact ih e
theorem lTl_st {σ : SG} {c k : Nat} : ∀ {K : Nat}, k ≤ K → lN_ σ K c ≤ k → lN_ σ K c = lN_ σ k c := by
  intro K
  induction K with
  | zero =>
    intro h1 _
    have : k = 0 := by omega
    rw [this]
  | succ K ih =>
    intro h1 h2
    rcases Nat.lt_or_ge K k with q | q
    · have : k = K + 1 := by omega
      rw [this]
    · unfold lN_ at h2 ⊢
      by_cases e : cix σ K = c
      · rw [if_pos e] at h2; omega
      · rw [if_neg e] at h2 ⊢
        have := ih q h2
        rw [this]
        cases k with
        | zero => rfl
        | succ k => rfl
theorem vAt_lN {σ : SG} {c : Nat} : ∀ {k : Nat}, vAt σ k c = if lN_ σ k c = 0 then -1 else σ.2 10 (lN_ σ k c - 1) := by
  intro k
  induction k with
  | zero => rfl
  | succ k ih =>
    unfold vAt lN_
    by_cases e : cix σ k = c
    · rw [if_pos e, if_pos e, if_neg (by omega), Nat.add_sub_cancel]
    · rw [if_neg e, if_neg e, ih]
def vK (σ : SG) (k c : Nat) : Int32 := vAt σ (min k (cn σ 7)) c
theorem c_asK51 (C : CS h σ tr u) (W : CT σ) {n : Nat} (hn : n ≤ cn σ 7) : f_X9_asKnown_b51 h N 14 (nI n) = some (if n = 0 then -1 else σ.2 10 (n - 1)) := by
  have hT := W.tl
  unfold f_X9_asKnown_b51
  by_cases e : n = 0
  · subst e; rw [if_pos rfl, if_pos (by decide)]
  · rw [if_neg e, if_neg (nI_ne0 (by omega) (by omega)), kr14_2 C, obs]
    have h1 : ai h 32 n = σ.2 10 (n - 1) := by
      have := (C.2.2.2.2.2.2.1.2 (n - 1) (by omega)).2
      rwa [Nat.sub_add_cancel (by omega)] at this
    rw [xia_of (kk32 C) (kl C (by decide)) (show n < 701 by omega) (by decide) h1, obs]
theorem c_asKnown (C : CS h σ tr u) (W : CT σ) {r s w k : Nat} (hr : r < 12) (hs : s < 16) (hw : w < 12) (hk : k < 2 ^ 31) (hN : 1000 < N) : f_X9_asKnown h N 14 (nI r) (nI s) (nI w) (nI k) = some (vK σ k (sp r s w)) := by
  have hT := W.tl
  have hc : sp r s w < 2304 := sp_lt hr hs hw
  have key : ∀ n K i, K ≤ cn σ 7 → i + K ≤ cn σ 7 → min k (cn σ 7) ≤ K → K < n → f_X9_asKnown_b21 h N n 14 (nI k) (nI (lN_ σ K (sp r s w))) (nI i) = some (vK σ k (sp r s w)) := by
    intro n
    induction n with
    | zero => intro K i _ _ _ q; omega
    | succ n ih =>
      intro K i h1 h2 h3 h4
      have hl : lN_ σ K (sp r s w) ≤ K := lTl_le
      by_cases q : lN_ σ K (sp r s w) ≤ k
      · have e : lN_ σ K (sp r s w) = lN_ σ (min k (cn σ 7)) (sp r s w) := lTl_st h3 (by omega)
        have e51 := c_asK51 (N := N) C W (n := lN_ σ K (sp r s w)) (by omega)
        have e2 : (if lN_ σ K (sp r s w) = 0 then -1 else σ.2 10 (lN_ σ K (sp r s w) - 1)) = vK σ k (sp r s w) := by
          unfold vK
          rw [vAt_lN, e]
        by_cases q7 : 700 ≤ i
        · simp (disch := omega) only [f_X9_asKnown_b21, f_X9_asKnown_b21_body, obs, b10, b01, bm, if_true_, if_false_, eq_self, not_true_eq_false, not_false_eq_true, true_or, or_true, or_false, false_or, and_true, true_and, and_false, false_and, or_self, and_self, Bool.false_eq_true, ite_self, n25, n20, n24, n100, lt700, nI_leI, q7, e51, e2]
        · simp (disch := omega) only [f_X9_asKnown_b21, f_X9_asKnown_b21_body, obs, b10, b01, bm, if_true_, if_false_, eq_self, not_true_eq_false, not_false_eq_true, true_or, or_true, or_false, false_or, and_true, true_and, and_false, false_and, or_self, and_self, Bool.false_eq_true, ite_self, n25, n20, n24, n100, lt700, nI_leI, q7, q, e51, e2]
      · have q7 : ¬ 700 ≤ i := by omega
        obtain ⟨m, em⟩ : ∃ m, lN_ σ K (sp r s w) = m + 1 := ⟨lN_ σ K (sp r s w) - 1, by omega⟩
        have ec := lTl_cix em
        have e31 : xia h 31 (nI (m + 1)) = some (nI (lN_ σ m (sp r s w))) := xia_of (kk31 C) (kl C (by decide)) (show m + 1 < 701 by omega) (by decide) (by rw [(C.2.2.2.2.2.2.1.2 m (by omega)).1, ec])
        have q' : ¬ m + 1 ≤ k := by omega
        rw [em]
        simp (disch := omega) only [f_X9_asKnown_b21, f_X9_asKnown_b21_body, obs, b10, b01, bm, if_true_, if_false_, eq_self, not_true_eq_false, not_false_eq_true, true_or, or_true, or_false, false_or, and_true, true_and, and_false, false_and, or_self, and_self, Bool.false_eq_true, ite_self, n25, n20, n24, n100, lt700, nI_leI, q7, q', kr14_1 C, e31, nI_1]
        exact ih m (i + 1) (by omega) (by omega) (by omega) (by omega)
  have e30 : xia h 30 (nI (sp r s w)) = some (nI (lN_ σ (cn σ 7) (sp r s w))) := xia_of (kk30 C) (kl C (by decide)) hc (by decide) (C.2.2.2.2.2.2.1.1 _ hc)
  unfold f_X9_asKnown
  rw [if_pos (kk14 C), kr14_0 C, obs, show ((nI r * 16 + nI s) * 12 + nI w) = nI (sp r s w) by unfold sp; rw [lt16, lt12, nI_mul, nI_add, nI_mul, nI_add, Nat.mul_comm r 16], e30, obs]
  exact key N (cn σ 7) 0 (Nat.le_refl _) (by omega) (by omega) (by omega)
end
