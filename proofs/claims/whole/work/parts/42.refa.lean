/-! ===== the reference's plain questions ===== -/
theorem in_ok {h : AH} {v hi : Int32} {n : Nat} (hn : n < 2 ^ 31) (e : hi.toInt = (n : Int) - 1) : f_X12_in h v 0 hi = some (if ok v n then 1 else 0) := by
  unfold f_X12_in
  have h2 : hi < v ↔ ¬ v < nI n := by
    rw [Int32.lt_iff_toInt_lt, Int32.lt_iff_toInt_lt, nI_toInt hn, e]
    omega
  by_cases q : ok v n = true
  · have q2 := ok_iff.mp q
    rw [if_neg (Int32.not_lt.mpr q2.1), if_neg (fun c => (h2.mp c) q2.2), if_pos q]
  · rw [if_neg q]
    by_cases h1 : v < 0
    · rw [if_pos h1]
    · rw [if_neg h1, if_pos (h2.mpr (fun c => q (ok_iff.mpr ⟨Int32.not_lt.mp h1, c⟩)))]
theorem nI_m1 {n : Nat} (h : n < 2 ^ 31) : (nI n - 1).toInt = (n : Int) - 1 := by
  rw [Int32.toInt_sub, nI_toInt h, show (1 : Int32).toInt = 1 by decide]
  apply Int.bmod_eq_of_le <;> omega
theorem in_ok1 {h : AH} {v : Int32} {n : Nat} (hn : n < 2 ^ 31) : f_X12_in h v 0 (nI n - 1) = some (if ok v n then 1 else 0) := in_ok hn (nI_m1 hn)
theorem zi {c : Prop} [Decidable c] : ((if c then (1 : Int32) else 0) = 0) = ¬ c := by by_cases q : c <;> simp [q]
theorem zi2 {c : Prop} [Decidable c] : ((if c then (1 : Int32) else 0) = 0 ∨ (if c then (1 : Int32) else 0) = 1) = True := by by_cases q : c <;> simp [q]
theorem r_isSeason {h : AH} {v : Int32} : f_X12_isSeason h v = some (if ok v 16 then 1 else 0) := by
  unfold f_X12_isSeason
  rw [in_ok (n := 16) (by decide) (by decide), obs, if_pos (by rw [zi2]; trivial)]
theorem r_isWeek {h : AH} {v : Int32} : f_X12_isWeek h v = some (if ok v 12 then 1 else 0) := by
  unfold f_X12_isWeek
  rw [in_ok (n := 12) (by decide) (by decide), obs, if_pos (by rw [zi2]; trivial)]
theorem r_isSheet {h : AH} {v : Int32} : f_X12_isSheet h v = some (if ok v 3 then 1 else 0) := by
  unfold f_X12_isSheet
  rw [in_ok (n := 3) (by decide) (by decide), obs, if_pos (by rw [zi2]; trivial)]
theorem r_isPlace {h : AH} {x y : Int32} : f_X12_isPlace h x y = some (if ok x 100 ∧ ok y 100 then 1 else 0) := by
  unfold f_X12_isPlace
  rw [in_ok (n := 100) (by decide) (by decide), obs, in_ok (n := 100) (by decide) (by decide), obs]
  rcases ok x 100 <;> rcases ok y 100 <;> decide
/-! ===== counts ===== -/
def cn (σ : SG) (k : Nat) : Nat := (σ.1 k).toNatClampNeg
def cmax : List (Nat × Nat) := [(0, 8), (7, 700), (13, 8), (26, 24), (36, 60), (41, 80), (46, 8), (49, 200), (55, 20), (63, 100)]
def CT (σ : SG) : Prop := ∀ q ∈ cmax, σ.1 q.1 = nI (cn σ q.1) ∧ cn σ q.1 ≤ q.2
theorem CT.g {σ : SG} (W : CT σ) : σ.1 0 = nI (cn σ 0) ∧ cn σ 0 ≤ 8 := W (0, 8) (by decide)
theorem CT.tl {σ : SG} (W : CT σ) : σ.1 7 = nI (cn σ 7) ∧ cn σ 7 ≤ 700 := W (7, 700) (by decide)
theorem CT.t {σ : SG} (W : CT σ) : σ.1 13 = nI (cn σ 13) ∧ cn σ 13 ≤ 8 := W (13, 8) (by decide)
theorem CT.f {σ : SG} (W : CT σ) : σ.1 26 = nI (cn σ 26) ∧ cn σ 26 ≤ 24 := W (26, 24) (by decide)
theorem CT.c {σ : SG} (W : CT σ) : σ.1 36 = nI (cn σ 36) ∧ cn σ 36 ≤ 60 := W (36, 60) (by decide)
theorem CT.l {σ : SG} (W : CT σ) : σ.1 41 = nI (cn σ 41) ∧ cn σ 41 ≤ 80 := W (41, 80) (by decide)
theorem CT.s {σ : SG} (W : CT σ) : σ.1 46 = nI (cn σ 46) ∧ cn σ 46 ≤ 8 := W (46, 8) (by decide)
theorem CT.p {σ : SG} (W : CT σ) : σ.1 49 = nI (cn σ 49) ∧ cn σ 49 ≤ 200 := W (49, 200) (by decide)
theorem CT.q {σ : SG} (W : CT σ) : σ.1 55 = nI (cn σ 55) ∧ cn σ 55 ≤ 20 := W (55, 20) (by decide)
theorem CT.a {σ : SG} (W : CT σ) : σ.1 63 = nI (cn σ 63) ∧ cn σ 63 ≤ 100 := W (63, 100) (by decide)
section
variable {h : AH} {σ : SG}
theorem RS.kk (H : RS h σ) : kd h 100 = 14 := H.1
theorem r_isGauge (H : RS h σ) (W : CT σ) {v : Int32} : f_X12_isGauge h 100 v = some (if ok v (cn σ 0) then 1 else 0) := by
  have := W.g
  unfold f_X12_isGauge
  rw [if_pos H.1, RS.gi H, obs, this.1, in_ok1 (by omega), obs, if_pos (by rw [zi2]; trivial)]
theorem r_isTerm (H : RS h σ) (W : CT σ) {v : Int32} : f_X12_isTerm h 100 v = some (if ok v (cn σ 13) then 1 else 0) := by
  have := W.t
  unfold f_X12_isTerm
  rw [if_pos H.1, RS.gi H, obs, this.1, in_ok1 (by omega), obs, if_pos (by rw [zi2]; trivial)]
theorem r_isFarm (H : RS h σ) (W : CT σ) {v : Int32} : f_X12_isFarm h 100 v = some (if ok v (cn σ 26) then 1 else 0) := by
  have := W.f
  unfold f_X12_isFarm
  rw [if_pos H.1, RS.gi H, obs, this.1, in_ok1 (by omega), obs, if_pos (by rw [zi2]; trivial)]
/-! ===== distances, gauges ===== -/
def apt (a b : Int32) : Int32 := if b ≤ a then a - b else b - a
def dst (a b c d : Int32) : Int32 := apt a c + apt b d
theorem r_apart {h : AH} {a b : Int32} : f_X12_apart h a b = some (apt a b) := by
  unfold f_X12_apart apt
  by_cases q : b ≤ a
  · rw [if_pos q, if_pos q]
  · rw [if_neg q, if_neg q]
def betw (σ : SG) (g i : Nat) : Int32 := dst (σ.2 1 g) (σ.2 2 g) (σ.2 1 i) (σ.2 2 i)
theorem r_between (H : RS h σ) {g i : Nat} (hg : g < 8) (hi : i < 8) : f_X12_between h 100 (nI g) (nI i) = some (betw σ g i) := by
  simp (disch := omega) only [f_X12_between, obs, b10, b01, bm, if_true_, if_false_, eq_self, not_true_eq_false, not_false_eq_true, true_or, or_true, or_false, false_or, and_true, true_and, and_false, false_and, or_self, and_self, Bool.false_eq_true, ite_self, n25, n20, n24, n100, RS.kk H, rg1 H, ra1 H, rg2 H, ra2 H, r_apart, betw, dst]
def near (σ : SG) (g i : Nat) : Prop := ¬ g = i ∧ ¬ σ.2 5 0 < betw σ g i
def nearD (σ : SG) (g i : Nat) : Decidable (near σ g i) := inferInstanceAs (Decidable (¬ g = i ∧ ¬ σ.2 5 0 < betw σ g i))
theorem r_areNear (H : RS h σ) {g i : Nat} (hg : g < 8) (hi : i < 8) : f_X12_areNear h 100 (nI g) (nI i) = some (if g = i ∨ σ.2 5 0 < betw σ g i then 0 else 1) := by
  have e : xia h 105 0 = some (σ.2 5 0) := ra5 H (n := 0) (by omega)
  by_cases q : g = i
  · simp (disch := omega) only [f_X12_areNear, obs, b10, b01, bm, if_true_, if_false_, eq_self, not_true_eq_false, not_false_eq_true, true_or, or_true, or_false, false_or, and_true, true_and, and_false, false_and, or_self, and_self, Bool.false_eq_true, ite_self, n25, n20, n24, n100, RS.kk H, q]
  · by_cases q2 : σ.2 5 0 < betw σ g i
    · simp (disch := omega) only [f_X12_areNear, obs, b10, b01, bm, if_true_, if_false_, eq_self, not_true_eq_false, not_false_eq_true, true_or, or_true, or_false, false_or, and_true, true_and, and_false, false_and, or_self, and_self, Bool.false_eq_true, ite_self, n25, n20, n24, n100, RS.kk H, nI_eq, q, q2, r_between H, rg5 H, e]
    · simp (disch := omega) only [f_X12_areNear, obs, b10, b01, bm, if_true_, if_false_, eq_self, not_true_eq_false, not_false_eq_true, true_or, or_true, or_false, false_or, and_true, true_and, and_false, false_and, or_self, and_self, Bool.false_eq_true, ite_self, n25, n20, n24, n100, RS.kk H, nI_eq, q, q2, r_between H, rg5 H, e]
def farD (σ : SG) (f i : Nat) : Int32 := dst (σ.2 27 f) (σ.2 28 f) (σ.2 1 i) (σ.2 2 i)
theorem r_farFrom (H : RS h σ) {f : Nat} {x y : Int32} (hf : f < 24) : f_X12_farFrom h 100 (nI f) x y = some (dst (σ.2 27 f) (σ.2 28 f) x y) := by
  simp (disch := omega) only [f_X12_farFrom, obs, b10, b01, bm, if_true_, if_false_, eq_self, not_true_eq_false, not_false_eq_true, true_or, or_true, or_false, false_or, and_true, true_and, and_false, false_and, or_self, and_self, Bool.false_eq_true, ite_self, n25, n20, n24, n100, RS.kk H, rg27 H, ra27 H, rg28 H, ra28 H, r_apart, dst]
theorem r_stands (H : RS h σ) {g : Nat} {s : Int32} (hg : g < 8) : f_X12_stands h 100 (nI g) s = some (if s < σ.2 3 g ∨ σ.2 4 g ≤ s then 0 else 1) := by
  by_cases q : s < σ.2 3 g <;> by_cases q2 : σ.2 4 g ≤ s <;> simp (disch := omega) only [f_X12_stands, obs, b10, b01, bm, if_true_, if_false_, eq_self, not_true_eq_false, not_false_eq_true, true_or, or_true, or_false, false_or, and_true, true_and, and_false, false_and, or_self, and_self, Bool.false_eq_true, ite_self, n25, n20, n24, n100, RS.kk H, rg3 H, ra3 H, rg4 H, ra4 H, q, q2]
def bt (a : Option Nat) (d : Nat → Int32) (i : Nat) : Bool := match a with
  | none => true
  | some b => !decide (d b ≤ d i)
def ggS (σ : SG) (f : Nat) (s : Int32) (i : Nat) (a : Option Nat) : Option Nat := if ¬ (s < σ.2 3 i ∨ σ.2 4 i ≤ s) ∧ bt a (farD σ f) i = true then some i else a
def gaugeOf (σ : SG) (f : Nat) (s : Int32) : Option Nat := itr (ggS σ f s) 0 (cn σ 0) none
theorem r_gaugeOf (H : RS h σ) (W : CT σ) {f N : Nat} {s : Int32} (hf : f < 24) (hN : 100 < N) : f_X12_gaugeOf h N 100 (nI f) s = some (oI (gaugeOf σ f s)) := by
  have hG := W.g
  unfold f_X12_gaugeOf
  rw [if_pos H.1]
  refine (lpA (fun n i a => f_X12_gaugeOf_b5 h N n 100 (nI f) s (oI a) (nI i)) (ggS σ f s) (cn σ 0) (fun a => some (oI a)) (fun i a => ∀ b, a = some b → b < i) ?_ ?_ (cn σ 0) N 0 none (by omega) (by omega) (by simp)).1
  · intro n a _
    simp (disch := omega) only [f_X12_gaugeOf_b5, f_X12_gaugeOf_b5_body, obs, b10, b01, bm, if_true_, if_false_, eq_self, not_true_eq_false, not_false_eq_true, true_or, or_true, or_false, false_or, and_true, true_and, and_false, false_and, or_self, and_self, Bool.false_eq_true, ite_self, n25, n20, n24, n100, RS.gi H, hG.1, nI_leI, Nat.le_refl]
  · intro n i a hi ha
    have hn : ¬ cn σ 0 ≤ i := by omega
    refine ⟨?_, ?_⟩
    · rcases a with _ | b
      · by_cases q : s < σ.2 3 i ∨ σ.2 4 i ≤ s <;> simp (disch := omega) only [f_X12_gaugeOf_b5, f_X12_gaugeOf_b5_body, f_X12_gaugeOf_b58, f_X12_gaugeOf_b63, f_X12_gaugeOf_b85, f_X12_gaugeOf_b86, obs, b10, b01, bm, if_true_, if_false_, eq_self, not_true_eq_false, not_false_eq_true, true_or, or_true, or_false, false_or, and_true, true_and, and_false, false_and, or_self, and_self, Bool.false_eq_true, ite_self, n25, n20, n24, n100, RS.gi H, hG.1, nI_leI, hn, oI_n, oI_s, r_stands H, ggS, bt, q, nI_1]
      · have hb := ha b rfl
        by_cases q : s < σ.2 3 i ∨ σ.2 4 i ≤ s <;> by_cases q2 : farD σ f b ≤ farD σ f i <;> simp only [farD] at q2 <;> simp (disch := omega) only [f_X12_gaugeOf_b5, f_X12_gaugeOf_b5_body, f_X12_gaugeOf_b58, f_X12_gaugeOf_b63, f_X12_gaugeOf_b85, f_X12_gaugeOf_b86, obs, b10, b01, bm, if_true_, if_false_, eq_self, not_true_eq_false, not_false_eq_true, true_or, or_true, or_false, false_or, and_true, true_and, and_false, false_and, or_self, and_self, Bool.false_eq_true, ite_self, n25, n20, n24, n100, RS.gi H, hG.1, nI_leI, hn, oI_n, oI_s, nI_negF, r_stands H, r_farFrom H, rg1 H, ra1 H, rg2 H, ra2 H, ggS, bt, farD, q, q2, nI_1, decide_true, decide_false, Bool.not_true, Bool.not_false, Bool.false_eq_true]
    · intro b hb
      unfold ggS at hb
      split at hb
      · cases hb; omega
      · have := ha b hb; omega
end
