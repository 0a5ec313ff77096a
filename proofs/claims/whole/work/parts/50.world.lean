/-! ===== the class's world ===== -/
def cfr : List (Nat × Nat × Nat) := [(1, 0, 10), (1, 1, 11), (1, 2, 12), (1, 3, 13), (1, 4, 14), (1, 5, 15), (1, 6, 16), (1, 7, 17), (1, 8, 18), (1, 9, 19), (1, 10, 20), (1, 11, 21), (1, 12, 22), (1, 16, 26), (1, 17, 27), (1, 18, 28), (1, 19, 29), (14, 0, 30), (14, 1, 31), (14, 2, 32), (15, 0, 33), (18, 2, 34), (19, 2, 35), (20, 2, 36), (21, 2, 37), (23, 2, 38), (24, 2, 39), (25, 2, 40)]
def ckd : List (Nat × Nat) := [(1, 13), (10, 1), (11, 1), (12, 1), (13, 1), (14, 11), (15, 10), (16, 20), (17, 20), (18, 9), (19, 9), (20, 9), (21, 9), (22, 24), (23, 8), (24, 8), (25, 8), (26, 20), (27, 20), (28, 20), (29, 20), (30, 20), (31, 20), (32, 20), (33, 22), (34, 20), (35, 20), (36, 20), (37, 20), (38, 20), (39, 20), (40, 20)]
def cln : List (Nat × Nat) := [(16, 4), (17, 4), (22, 3), (26, 12), (27, 12), (28, 16), (29, 24), (30, 2304), (31, 701), (32, 701), (33, 100), (34, 240), (35, 320), (36, 800), (37, 100), (38, 40), (39, 40), (40, 40)]
def KS (h : AH) : Prop := (∀ q ∈ cfr, fr h q.1 q.2.1 = some q.2.2) ∧ (∀ q ∈ ckd, kd h q.1 = q.2) ∧ (∀ q ∈ cln, ln h q.1 = q.2) ∧ ∀ j, j < 3 → ar h 22 j = some (23 + j)
/-- what never changes: the given rows -/
def DRYL : List Int32 := [100, 80, 120, 60]
def MOSL : List Int32 := [198, 9999, 300, 100]
def ST (h : AH) : Prop := (kd h 9001 = 30 ∧ ln h 9001 = 4 ∧ ∀ j, j < 4 → ai h 9001 j = DRYL.getD j 0) ∧ (kd h 9002 = 30 ∧ ln h 9002 = 4 ∧ ∀ j, j < 4 → ai h 9002 j = MOSL.getD j 0) ∧
  (∀ i, i < 16 → kd h (9100 + i) = 40 ∧ kd h (9120 + i) = 41 ∧ ln h (9120 + i) = SLEN.getD i 0 ∧ ai h (9120 + i) = fun j => (SBYT.getD i []).getD j 0) ∧ (kd h 9200 = 33 ∧ ln h 9200 = 0) ∧ kd h 9300 = 50
def ct (σ : SG) (c : Nat) : Nat := if c < 100 then cn σ c else c - 100
/-! ints of the class and where the reference has them: (role, field, number of the reference's field) -/
def dI : List (Nat × Nat × Nat) := [(1, 13, 54), (1, 14, 61), (10, 2, 0), (11, 2, 13), (12, 2, 26), (13, 2, 46), (14, 3, 7), (15, 1, 63), (18, 3, 36), (19, 3, 41), (20, 3, 49), (21, 3, 55)]
def dC : List (Nat × Nat × Int32) := [(18, 0, 60), (18, 1, 4), (19, 0, 80), (19, 1, 4), (20, 0, 200), (20, 1, 4), (21, 0, 20), (21, 1, 5)]
/-- (base, field, reference's row, count, most) -/
def dF : List (Nat × Nat × Nat × Nat × Nat) := [(200, 0, 1, 0, 8), (200, 1, 2, 0, 8), (200, 2, 3, 0, 8), (200, 3, 4, 0, 8), (210, 0, 47, 46, 8), (210, 1, 48, 46, 8), (300, 1, 27, 26, 24), (300, 2, 28, 26, 24), (300, 3, 30, 26, 24), (300, 6, 31, 26, 24), (300, 7, 32, 26, 24), (300, 8, 33, 26, 24), (23, 0, 66, 103, 3), (23, 1, 67, 103, 3)]
/-- (role, stride, place, reference's row, length) -/
def dA : List (Nat × Nat × Nat × Nat × Nat) := [(16, 1, 0, 5, 4), (17, 1, 0, 35, 4), (34, 4, 0, 37, 60), (34, 4, 1, 39, 60), (34, 4, 2, 38, 60), (34, 4, 3, 40, 60), (35, 4, 0, 42, 80), (35, 4, 1, 43, 80), (35, 4, 2, 44, 80), (35, 4, 3, 45, 80), (36, 4, 0, 50, 200), (36, 4, 1, 51, 200), (36, 4, 2, 52, 200), (36, 4, 3, 53, 200), (37, 5, 0, 56, 20), (37, 5, 1, 57, 20), (37, 5, 2, 58, 20), (37, 5, 3, 59, 20), (37, 5, 4, 60, 20)]
/-- (base, width, reference's row, count, most) -/
def dB : List (Nat × Nat × Nat × Nat × Nat) := [(330, 16, 34, 26, 24), (38, 40, 68, 103, 3)]
def DI (h : AH) (σ : SG) : Prop := ∀ q ∈ dI, fi h q.1 q.2.1 = σ.1 q.2.2
def DC (h : AH) : Prop := ∀ q ∈ dC, fi h q.1 q.2.1 = q.2.2
def DF (h : AH) (σ : SG) : Prop := ∀ q ∈ dF, ∀ j, j < ct σ q.2.2.2.1 → fi h (q.1 + j) q.2.1 = σ.2 q.2.2.1 j
def DA (h : AH) (σ : SG) : Prop := ∀ q ∈ dA, ∀ j, j < q.2.2.2.2 → ai h q.1 (q.2.1 * j + q.2.2.1) = σ.2 q.2.2.2.1 j
def DB (h : AH) (σ : SG) : Prop := ∀ q ∈ dB, ∀ j, j < ct σ q.2.2.2.1 → ∀ i, i < q.2.1 → ai h (q.1 + j) i = σ.2 q.2.2.1 (q.2.1 * j + i)
def DD (h : AH) (σ : SG) : Prop := DI h σ ∧ DC h ∧ DF h σ ∧ DA h σ ∧ DB h σ
theorem up2_ite {α : Type} {f : Nat → Nat → α} {r k a b : Nat} {x : α} : up2 f r k x a b = if a = r ∧ b = k then x else f a b := by
  unfold up2 va_up
  by_cases h1 : a = r
  · subst h1
    by_cases h2 : b = k
    · subst h2; rw [if_pos rfl, if_pos rfl, if_pos ⟨rfl, rfl⟩]
    · rw [if_pos rfl, if_neg h2, if_neg (fun q => h2 q.2)]
  · rw [if_neg h1, if_neg (fun q => h1 q.1)]
theorem fi_sfi {h : AH} {r k a b : Nat} {x : Int32} : fi (sfi h r k x) a b = if a = r ∧ b = k then x else fi h a b := up2_ite
theorem ai_sai {h : AH} {r k a b : Nat} {x : Int32} : ai (sai h r k x) a b = if a = r ∧ b = k then x else ai h a b := up2_ite
theorem s2_ite {σ : SG} {k j a b : Nat} {x : Int32} : (s2 σ k j x).2 a b = if a = k ∧ b = j then x else σ.2 a b := up2_ite
theorem s1_ite {σ : SG} {k a : Nat} {x : Int32} : (s1 σ k x).1 a = if a = k then x else σ.1 a := rfl
theorem ct_s2 {σ : SG} {k j c : Nat} {x : Int32} : ct (s2 σ k j x) c = ct σ c := rfl
/-- the class writes a field of one of its things where the reference writes a row -/
theorem DD.wF {h : AH} {σ : SG} (D : DD h σ) (W : ∀ q ∈ dF, ct σ q.2.2.2.1 ≤ q.2.2.2.2) {b f k c m j : Nat} {x : Int32} (hq : (b, f, k, c, m) ∈ dF) (hj : j < ct σ c) : DD (sfi h (b + j) f x) (s2 σ k j x) := by
  have hm : j < m := Nat.lt_of_lt_of_le hj (W _ hq)
  obtain ⟨d1, d2, d3, d4, d5⟩ := D
  have t1 : ∀ q ∈ dF, ∀ p ∈ dI, (p.1 < q.1 ∨ q.1 + q.2.2.2.2 ≤ p.1) := by decide
  have t2 : ∀ q ∈ dF, ∀ p ∈ dC, (p.1 < q.1 ∨ q.1 + q.2.2.2.2 ≤ p.1) := by decide
  have t3 : ∀ q ∈ dF, ∀ p ∈ dF, p = q ∨ (p.2.2.1 ≠ q.2.2.1 ∧ (p.2.1 ≠ q.2.1 ∨ p.1 + p.2.2.2.2 ≤ q.1 ∨ q.1 + q.2.2.2.2 ≤ p.1)) := by decide
  have t4 : ∀ q ∈ dF, ∀ p ∈ dA, p.2.2.2.1 ≠ q.2.2.1 := by decide
  have t5 : ∀ q ∈ dF, ∀ p ∈ dB, p.2.2.1 ≠ q.2.2.1 := by decide
  refine ⟨fun p hp => ?_, fun p hp => ?_, fun p hp i hi => ?_, fun p hp i hi => ?_, fun p hp i hi i' hi' => ?_⟩
  · rw [fi_sfi, if_neg, d1 p hp]
    · rfl
    · have := t1 _ hq p hp; simp only at this; omega
  · rw [fi_sfi, if_neg, d2 p hp]
    have := t2 _ hq p hp; simp only at this; omega
  · rw [ct_s2] at hi
    have hm2 := Nat.lt_of_lt_of_le hi (W _ hp)
    rw [fi_sfi, s2_ite]
    rcases t3 _ hq p hp with e | ⟨e1, e2⟩
    · subst e
      by_cases e : i = j
      · subst e; rw [if_pos ⟨rfl, rfl⟩, if_pos ⟨rfl, rfl⟩]
      · rw [if_neg (by simp only; omega), if_neg (by omega)]; exact d3 _ hp i hi
    · simp only at e1 e2
      rw [if_neg (by omega), if_neg (fun q => e1 q.1)]
      exact d3 _ hp i hi
  · rw [s2_ite, if_neg (fun q => t4 _ hq p hp q.1)]
    exact d4 p hp i hi
  · rw [s2_ite, if_neg (fun q => t5 _ hq p hp q.1)]
    exact d5 p hp i hi i' hi'
theorem DD.wA {h : AH} {σ : SG} (D : DD h σ) (W : ∀ q ∈ dB, ct σ q.2.2.2.1 ≤ q.2.2.2.2) {r st o k n j : Nat} {x : Int32} (hq : (r, st, o, k, n) ∈ dA) (hj : j < n) : DD (sai h r (st * j + o) x) (s2 σ k j x) := by
  obtain ⟨d1, d2, d3, d4, d5⟩ := D
  have t3 : ∀ q ∈ dA, ∀ p ∈ dF, p.2.2.1 ≠ q.2.2.2.1 := by decide
  have t4 : ∀ q ∈ dA, ∀ p ∈ dA, p = q ∨ (p.2.2.2.1 ≠ q.2.2.2.1 ∧ (p.1 ≠ q.1 ∨ (p.2.1 = q.2.1 ∧ p.2.2.1 ≠ q.2.2.1))) := by decide
  have t6 : ∀ q ∈ dA, 0 < q.2.1 ∧ q.2.2.1 < q.2.1 := by decide
  have t5 : ∀ q ∈ dA, ∀ p ∈ dB, p.2.2.1 ≠ q.2.2.2.1 ∧ (q.1 < p.1 ∨ p.1 + p.2.2.2.2 ≤ q.1) := by decide
  refine ⟨fun p hp => d1 p hp, fun p hp => d2 p hp, fun p hp i hi => ?_, fun p hp i hi => ?_, fun p hp i hi i' hi' => ?_⟩
  · rw [s2_ite, if_neg (fun q => t3 _ hq p hp q.1)]
    exact d3 p hp i hi
  · rw [ai_sai, s2_ite]
    have hst := t6 _ hq
    have hsp := t6 _ hp
    simp only at hst
    rcases t4 _ hq p hp with e | ⟨e1, e2⟩
    · subst e
      by_cases e : i = j
      · subst e; rw [if_pos ⟨rfl, rfl⟩, if_pos ⟨rfl, rfl⟩]
      · rw [if_neg, if_neg (by omega)]
        · exact d4 _ hp i hi
        · intro q
          apply e
          have := q.2
          simp only at this
          exact Nat.eq_of_mul_eq_mul_left hst.1 (by omega)
    · simp only at e1 e2
      rw [if_neg, if_neg (fun q => e1 q.1)]
      · exact d4 _ hp i hi
      · intro q
        rcases e2 with e2 | ⟨e2, e3⟩
        · exact e2 q.1
        · apply e3
          have h1 := congrArg (· % st) q.2
          simp only [e2, Nat.mul_add_mod] at h1
          rw [Nat.mod_eq_of_lt hst.2, Nat.mod_eq_of_lt (by rw [← e2]; exact hsp.2)] at h1
          exact h1
  · obtain ⟨e1, e2⟩ := t5 _ hq p hp
    have hm2 := Nat.lt_of_lt_of_le hi (W _ hp)
    rw [ai_sai, s2_ite, if_neg, if_neg (fun q => e1 q.1)]
    · exact d5 p hp i hi i' hi'
    · simp only at e2; omega
theorem DD.wB {h : AH} {σ : SG} (D : DD h σ) (W : ∀ q ∈ dB, ct σ q.2.2.2.1 ≤ q.2.2.2.2) {b w k c m j l : Nat} {x : Int32} (hq : (b, w, k, c, m) ∈ dB) (hj : j < ct σ c) (hl : l < w) : DD (sai h (b + j) l x) (s2 σ k (w * j + l) x) := by
  obtain ⟨d1, d2, d3, d4, d5⟩ := D
  have hm : j < m := Nat.lt_of_lt_of_le hj (W _ hq)
  have t3 : ∀ q ∈ dB, ∀ p ∈ dF, p.2.2.1 ≠ q.2.2.1 := by decide
  have t4 : ∀ q ∈ dB, ∀ p ∈ dA, p.2.2.2.1 ≠ q.2.2.1 ∧ (p.1 < q.1 ∨ q.1 + q.2.2.2.2 ≤ p.1) := by decide
  have t5 : ∀ q ∈ dB, ∀ p ∈ dB, p = q ∨ (p.2.2.1 ≠ q.2.2.1 ∧ (q.1 + q.2.2.2.2 ≤ p.1 ∨ p.1 + p.2.2.2.2 ≤ q.1)) := by decide
  refine ⟨fun p hp => d1 p hp, fun p hp => d2 p hp, fun p hp i hi => ?_, fun p hp i hi => ?_, fun p hp i hi i' hi' => ?_⟩
  · rw [s2_ite, if_neg (fun q => t3 _ hq p hp q.1)]
    exact d3 p hp i hi
  · obtain ⟨e1, e2⟩ := t4 _ hq p hp
    simp only at e1 e2
    rw [ai_sai, s2_ite, if_neg (by omega), if_neg (fun q => e1 q.1)]
    exact d4 _ hp i hi
  · have hm2 := Nat.lt_of_lt_of_le hi (W _ hp)
    rw [ai_sai, s2_ite]
    rcases t5 _ hq p hp with e | ⟨e1, e2⟩
    · subst e
      simp only at hi' ⊢
      by_cases e : i = j ∧ i' = l
      · obtain ⟨rfl, rfl⟩ := e
        simp
      · rw [if_neg (by omega), if_neg]
        · exact d5 _ hp i hi i' hi'
        · intro q
          apply e
          have h1 := congrArg (· % w) q.2
          have h2 := congrArg (· / w) q.2
          simp only [Nat.mul_add_mod, Nat.mod_eq_of_lt hi', Nat.mod_eq_of_lt hl] at h1
          simp only [Nat.mul_add_div (show 0 < w by omega), Nat.div_eq_of_lt hi', Nat.div_eq_of_lt hl, Nat.add_zero] at h2
          exact ⟨h2, h1⟩
    · simp only at e1 e2
      rw [if_neg (by omega), if_neg (fun q => e1 q.1)]
      exact d5 p hp i hi i' hi'
/-- an int that is no count of things -/
theorem DD.wI {h : AH} {σ : SG} (D : DD h σ) (W : ∀ q ∈ dF, ct σ q.2.2.2.1 ≤ q.2.2.2.2) {r f k : Nat} {x : Int32} (hq : (r, f, k) ∈ dI) (hk : k ≠ 0 ∧ k ≠ 26 ∧ k ≠ 46) : DD (sfi h r f x) (s1 σ k x) := by
  obtain ⟨d1, d2, d3, d4, d5⟩ := D
  have t1 : ∀ q ∈ dI, ∀ p ∈ dI, p = q ∨ (p.2.2 ≠ q.2.2 ∧ (p.1 ≠ q.1 ∨ p.2.1 ≠ q.2.1)) := by decide
  have t2 : ∀ q ∈ dI, ∀ p ∈ dC, p.1 ≠ q.1 ∨ p.2.1 ≠ q.2.1 := by decide
  have t3 : ∀ q ∈ dI, ∀ p ∈ dF, (q.1 < p.1 ∨ p.1 + p.2.2.2.2 ≤ q.1) ∧ (p.2.2.2.1 = 0 ∨ p.2.2.2.1 = 26 ∨ p.2.2.2.1 = 46 ∨ 100 ≤ p.2.2.2.1) := by decide
  have t5 : ∀ p ∈ dB, (p.2.2.2.1 = 26 ∨ 100 ≤ p.2.2.2.1) := by decide
  have hct : ∀ c, c = 0 ∨ c = 26 ∨ c = 46 ∨ 100 ≤ c → ct (s1 σ k x) c = ct σ c := by
    intro c hc
    unfold ct cn
    by_cases e : c < 100
    · rw [if_pos e, if_pos e, s1_ite, if_neg (by omega)]
    · rw [if_neg e, if_neg e]
  refine ⟨fun p hp => ?_, fun p hp => ?_, fun p hp i hi => ?_, fun p hp i hi => d4 p hp i hi, fun p hp i hi i' hi' => ?_⟩
  · rw [fi_sfi, s1_ite]
    rcases t1 _ hq p hp with e | ⟨e1, e2⟩
    · subst e; rw [if_pos ⟨rfl, rfl⟩, if_pos rfl]
    · simp only at e1 e2
      rw [if_neg (by omega), if_neg e1]
      exact d1 p hp
  · rw [fi_sfi, if_neg, d2 p hp]
    have := t2 _ hq p hp; simp only at this; omega
  · obtain ⟨e1, e2⟩ := t3 _ hq p hp
    rw [hct _ e2] at hi
    have hm2 := Nat.lt_of_lt_of_le hi (W _ hp)
    simp only at e1
    rw [fi_sfi, if_neg (by omega)]
    exact d3 p hp i hi
  · rw [hct _ (by have := t5 p hp; omega)] at hi
    exact d5 p hp i hi i' hi'
/-- writes that the relation doesn't see -/
theorem DD.oA {h : AH} {σ : SG} (D : DD h σ) (W : ∀ q ∈ dB, ct σ q.2.2.2.1 ≤ q.2.2.2.2) {r i : Nat} {x : Int32} (h1 : ∀ q ∈ dA, r ≠ q.1) (h2 : ∀ q ∈ dB, r < q.1 ∨ q.1 + q.2.2.2.2 ≤ r) : DD (sai h r i x) σ := by
  obtain ⟨d1, d2, d3, d4, d5⟩ := D
  refine ⟨d1, d2, d3, fun p hp i hi => ?_, fun p hp i hi i' hi' => ?_⟩
  · rw [ai_sai, if_neg (fun q => h1 p hp q.1.symm)]
    exact d4 p hp i hi
  · have hm2 := Nat.lt_of_lt_of_le hi (W _ hp)
    have := h2 p hp
    rw [ai_sai, if_neg (by omega)]
    exact d5 p hp i hi i' hi'
theorem DD.oF {h : AH} {σ : SG} (D : DD h σ) (W : ∀ q ∈ dF, ct σ q.2.2.2.1 ≤ q.2.2.2.2) {r f : Nat} {x : Int32} (h1 : ∀ q ∈ dI, ¬ (q.1 = r ∧ q.2.1 = f)) (h2 : ∀ q ∈ dC, ¬ (q.1 = r ∧ q.2.1 = f)) (h3 : ∀ q ∈ dF, r < q.1 ∨ q.1 + q.2.2.2.2 ≤ r ∨ q.2.1 ≠ f) : DD (sfi h r f x) σ := by
  obtain ⟨d1, d2, d3, d4, d5⟩ := D
  refine ⟨fun p hp => ?_, fun p hp => ?_, fun p hp i hi => ?_, d4, d5⟩
  · rw [fi_sfi, if_neg (h1 p hp)]; exact d1 p hp
  · rw [fi_sfi, if_neg (h2 p hp)]; exact d2 p hp
  · have hm2 := Nat.lt_of_lt_of_le hi (W _ hp)
    have := h3 p hp
    rw [fi_sfi, if_neg (by omega)]
    exact d3 p hp i hi
/-- the reference writes a row of its own -/
theorem DD.o2 {h : AH} {σ : SG} (D : DD h σ) {k j : Nat} {x : Int32} (h1 : ∀ q ∈ dF, q.2.2.1 ≠ k) (h2 : ∀ q ∈ dA, q.2.2.2.1 ≠ k) (h3 : ∀ q ∈ dB, q.2.2.1 ≠ k) : DD h (s2 σ k j x) := by
  obtain ⟨d1, d2, d3, d4, d5⟩ := D
  refine ⟨d1, d2, fun p hp i hi => ?_, fun p hp i hi => ?_, fun p hp i hi i' hi' => ?_⟩
  · rw [s2_ite, if_neg (fun q => h1 p hp q.1)]; exact d3 p hp i hi
  · rw [s2_ite, if_neg (fun q => h2 p hp q.1)]; exact d4 p hp i hi
  · rw [s2_ite, if_neg (fun q => h3 p hp q.1)]; exact d5 p hp i hi i' hi'
