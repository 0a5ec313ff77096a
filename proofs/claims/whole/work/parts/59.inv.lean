/-! ===== checks ===== -/
theorem ci1 {h : AH} {v : Int32} : f_X11_within h v 0 1 = some (if ok v 2 then 1 else 0) := cin_ok (by decide) (by decide)
theorem ri1 {h : AH} {v : Int32} : f_X12_in h v 0 1 = some (if ok v 2 then 1 else 0) := in_ok (by decide) (by decide)
theorem ci2 {h : AH} {v : Int32} : f_X11_within h v 0 2 = some (if ok v 3 then 1 else 0) := cin_ok (by decide) (by decide)
theorem ri2 {h : AH} {v : Int32} : f_X12_in h v 0 2 = some (if ok v 3 then 1 else 0) := in_ok (by decide) (by decide)
theorem ci3 {h : AH} {v : Int32} : f_X11_within h v 0 3 = some (if ok v 4 then 1 else 0) := cin_ok (by decide) (by decide)
theorem ri3 {h : AH} {v : Int32} : f_X12_in h v 0 3 = some (if ok v 4 then 1 else 0) := in_ok (by decide) (by decide)
theorem ci4 {h : AH} {v : Int32} : f_X11_within h v 0 4 = some (if ok v 5 then 1 else 0) := cin_ok (by decide) (by decide)
theorem ri4 {h : AH} {v : Int32} : f_X12_in h v 0 4 = some (if ok v 5 then 1 else 0) := in_ok (by decide) (by decide)
theorem ci5 {h : AH} {v : Int32} : f_X11_within h v 0 5 = some (if ok v 6 then 1 else 0) := cin_ok (by decide) (by decide)
theorem ri5 {h : AH} {v : Int32} : f_X12_in h v 0 5 = some (if ok v 6 then 1 else 0) := in_ok (by decide) (by decide)
theorem ci11 {h : AH} {v : Int32} : f_X11_within h v 0 11 = some (if ok v 12 then 1 else 0) := cin_ok (by decide) (by decide)
theorem ri11 {h : AH} {v : Int32} : f_X12_in h v 0 11 = some (if ok v 12 then 1 else 0) := in_ok (by decide) (by decide)
theorem ci16 {h : AH} {v : Int32} : f_X11_within h v 0 16 = some (if ok v 17 then 1 else 0) := cin_ok (by decide) (by decide)
theorem ri16 {h : AH} {v : Int32} : f_X12_in h v 0 16 = some (if ok v 17 then 1 else 0) := in_ok (by decide) (by decide)
theorem ci98 {h : AH} {v : Int32} : f_X11_within h v 0 98 = some (if ok v 99 then 1 else 0) := cin_ok (by decide) (by decide)
theorem ri98 {h : AH} {v : Int32} : f_X12_in h v 0 98 = some (if ok v 99 then 1 else 0) := in_ok (by decide) (by decide)
theorem ci99 {h : AH} {v : Int32} : f_X11_within h v 0 99 = some (if ok v 100 then 1 else 0) := cin_ok (by decide) (by decide)
theorem ri99 {h : AH} {v : Int32} : f_X12_in h v 0 99 = some (if ok v 100 then 1 else 0) := in_ok (by decide) (by decide)
theorem ci198 {h : AH} {v : Int32} : f_X11_within h v 0 198 = some (if ok v 199 then 1 else 0) := cin_ok (by decide) (by decide)
theorem ri198 {h : AH} {v : Int32} : f_X12_in h v 0 198 = some (if ok v 199 then 1 else 0) := in_ok (by decide) (by decide)
theorem ci9999 {h : AH} {v : Int32} : f_X11_within h v 0 9999 = some (if ok v 10000 then 1 else 0) := cin_ok (by decide) (by decide)
theorem ri9999 {h : AH} {v : Int32} : f_X12_in h v 0 9999 = some (if ok v 10000 then 1 else 0) := in_ok (by decide) (by decide)
/-! ===== the invariant ===== -/
def WRDS : List Int32 := [112, 97, 121, 32, 0, 32, 105, 102, 32, 0, 114, 97, 116, 101, 32, 0, 32, 112, 101, 114, 32, 0, 32, 98, 101, 108, 111, 119, 32, 0, 32, 111, 102, 32, 115, 117, 109, 32, 0, 32, 116, 111, 32, 0, 32, 109, 97, 120, 32, 0, 115, 117, 109, 32, 0, 100, 114, 121, 32, 0, 103, 114, 101, 101, 110, 32, 0, 119, 101, 101, 107, 32, 0, 32, 97, 110, 100, 32, 0]
/-- what no one has written yet -/
def WZ (σ : SG) : Prop := (∀ j, cn σ 26 ≤ j → j < 24 → σ.2 31 j = 0 ∧ σ.2 33 j = 0 ∧ ∀ s, s < 16 → σ.2 34 (16 * j + s) = 0) ∧ ∀ t, t < 8 → bd (σ.2 17 t) 10000 ∧ bd (σ.2 18 t) 10000
def WX (σ : SG) (n : Nat) : Prop := (∀ j, j < cn σ 26 → bd (σ.2 32 j + 1) 5 ∧ bd (σ.2 31 j) (989901 * n + 1) ∧ ∀ s, s < 16 → bd (σ.2 34 (16 * j + s)) 989902) ∧ bd (σ.1 54) 2000000001 ∧ (∀ i, i < 100 → bd (σ.2 62 i) 256) ∧ bd (σ.1 64) 21 ∧
  (∀ j, j < 3 → bd (σ.2 66 j + 1) 4 ∧ bd (σ.2 67 j) 41) ∧ (∀ j, j < cn σ 55 → bd (σ.2 60 j + 1) 201) ∧ (∀ j, j < 79 → σ.2 71 j = WRDS.getD j 0) ∧ WZ σ
def INV (L : Nat) (xs : Nat → Int32) (h : AH) (σ : SG) (tr : Nat → Nat) (u n : Nat) : Prop := CS h σ tr u ∧ RS h σ ∧ WV σ ∧ WX σ n ∧ (kd h 9000 = 30 ∧ ln h 9000 = L ∧ ai h 9000 = xs) ∧ u ≤ n
/-- the same but for what the reference alone uses -/
def SGE (σ σ' : SG) : Prop := (∀ k, k < 69 → σ'.1 k = σ.1 k) ∧ ∀ k, k < 69 ∨ k = 71 → k ≠ 11 → k ≠ 12 → σ'.2 k = σ.2 k
section
variable {L N : Nat} {xs : Nat → Int32} {h h' : AH} {σ σ' : SG} {tr : Nat → Nat} {u n : Nat}
theorem CS.frc (C : CS h σ tr u) (S : FRc h h') : CS h' σ tr u := by
  obtain ⟨e1, e2, e4, e5, e6⟩ := S
  obtain ⟨k, ⟨s1, s2, s3, s4, s5⟩, ⟨d1, d2, d3, d4, d5⟩, ob, cr, ac, tt, tp, tm, l1, l2, l3⟩ := C
  have tI : ∀ p ∈ dI, p.1 < 100 := by decide
  have tC : ∀ p ∈ dC, p.1 < 100 := by decide
  have tF : ∀ p ∈ dF, p.1 < 90 ∨ 177 ≤ p.1 := by decide
  have tA : ∀ p ∈ dA, p.1 < 100 := by decide
  have tB : ∀ p ∈ dB, 177 ≤ p.1 ∨ (p.1 < 50 ∧ p.2.2.2.1 = 103) := by decide
  have tF2 : ∀ p ∈ dF, 177 ≤ p.1 ∨ p.2.2.2.1 = 103 := by decide
  refine ⟨?_, ⟨?_, ?_, ?_, ?_, ?_⟩, ⟨?_, ?_, ?_, ?_, ?_⟩, ?_, ?_, ?_, ?_, ?_, ?_, ?_, ?_, ?_⟩
  · unfold KS; rw [e1, e2, e4, e5]; exact k
  · rw [e1, e2, (e6 _ (by omega)).2]; exact s1
  · rw [e1, e2, (e6 _ (by omega)).2]; exact s2
  · intro i hi; rw [e1, e2, (e6 _ (by omega)).2]; exact s3 i hi
  · rw [e1, e2]; exact s4
  · rw [e1]; exact s5
  · intro p hp; rw [(e6 _ (Or.inl (tI p hp))).1]; exact d1 p hp
  · intro p hp; rw [(e6 _ (Or.inl (tC p hp))).1]; exact d2 p hp
  · intro p hp j hj
    rw [(e6 _ (by
      rcases tF2 p hp with q | q
      · exact Or.inr (by omega)
      · rw [q] at hj
        have hj3 : j < 3 := hj
        have := tF p hp
        omega)).1]
    exact d3 p hp j hj
  · intro p hp j hj; rw [(e6 _ (Or.inl (tA p hp))).2]; exact d4 p hp j hj
  · intro p hp j hj i hi
    rw [(e6 _ (by
      rcases tB p hp with q | ⟨q, q2⟩
      · exact Or.inr (by omega)
      · rw [q2] at hj
        have hj3 : j < 3 := hj
        omega)).2]
    exact d5 p hp j hj i hi
  · unfold OB; rw [e1]; exact ob
  · refine ⟨fun j hj => ?_, by rw [e1]; exact cr.2⟩
    rw [e1, e2, e4, (e6 (300 + j) (by omega)).1, (e6 (360 + j) (by omega)).1]
    exact cr.1 j hj
  · unfold AC
    rw [e4]
    rcases ac with q | ⟨j, q1, q2, q3, q4⟩
    · exact Or.inl q
    · exact Or.inr ⟨j, q1, q2, by rw [(e6 (360 + j) (by omega)).1]; exact q3, fun i hi hr => by rw [(e6 _ (by omega)).2]; exact q4 i hi hr⟩
  · unfold TT; rw [(e6 30 (by omega)).2, (e6 31 (by omega)).2, (e6 32 (by omega)).2]; exact tt
  · unfold TP; rw [(e6 33 (by omega)).2]; exact tp
  · obtain ⟨t1, t2, t3⟩ := tm
    refine ⟨?_, fun t ht => ⟨(t2 t ht).1, ?_⟩, ?_⟩
    · unfold LZ; rw [e1, e2, e4, e5]; exact t1
    · unfold TM1
      rw [e1, e2, e4, (e6 (1000 + 8 * tr t) (by omega)).1, (e6 (1000 + 8 * tr t + 1) (by omega)).2, (e6 (1000 + 8 * tr t + 2) (by omega)).2, (e6 (1000 + 8 * tr t + 3) (by omega)).2, (e6 (1000 + 8 * tr t + 4) (by omega)).2, (e6 (1000 + 8 * tr t + 5) (by omega)).2]
      exact (t2 t ht).2
    · unfold TU; rw [e1]; exact t3
  · unfold LZ; rw [e1, e2, e4, e5]; exact l1
  · unfold LZ; rw [e1, e2, e4, e5]; exact l2
  · unfold LZ; rw [e1, e2, e4, e5]; exact l3
theorem SGE.cn (S : SGE σ σ') {k : Nat} (hk : k < 69) : cn σ' k = cn σ k := by
  unfold CRainCoverLaw_law_r3070_ac19d8.cn
  rw [S.1 k hk]
theorem SGE.ct (S : SGE σ σ') {k : Nat} (hk : k < 69 ∨ 100 ≤ k) : ct σ' k = ct σ k := by
  unfold CRainCoverLaw_law_r3070_ac19d8.ct
  by_cases e : k < 100
  · rw [if_pos e, if_pos e, S.cn (by omega)]
  · rw [if_neg e, if_neg e]
theorem SGE.cix (S : SGE σ σ') (i : Nat) : cix σ' i = cix σ i := by
  unfold CRainCoverLaw_law_r3070_ac19d8.cix
  rw [S.2 8 (by omega) (by omega) (by omega), S.2 9 (by omega) (by omega) (by omega)]
theorem SGE.vAt (S : SGE σ σ') : ∀ (k c : Nat), vAt σ' k c = vAt σ k c := by
  intro k
  induction k with
  | zero => intro c; rfl
  | succ k ih =>
    intro c
    unfold CRainCoverLaw_law_r3070_ac19d8.vAt
    rw [S.cix, ih, S.2 10 (by omega) (by omega) (by omega)]
theorem SGE.lN (S : SGE σ σ') : ∀ (k c : Nat), lN_ σ' k c = lN_ σ k c := by
  intro k
  induction k with
  | zero => intro c; rfl
  | succ k ih =>
    intro c
    unfold lN_
    rw [S.cix, ih]
theorem CS.sg (C : CS h σ tr u) (S : SGE σ σ') : CS h σ' tr u := by
  obtain ⟨k, s, ⟨d1, d2, d3, d4, d5⟩, ob, cr, ac, tt, tp, tm, l1, l2, l3⟩ := C
  have tI : ∀ p ∈ dI, p.2.2 < 69 := by decide
  have tF : ∀ p ∈ dF, (p.2.2.1 < 69 ∧ p.2.2.1 ≠ 11 ∧ p.2.2.1 ≠ 12) ∧ (p.2.2.2.1 < 69 ∨ 100 ≤ p.2.2.2.1) := by decide
  have tA : ∀ p ∈ dA, p.2.2.2.1 < 69 ∧ p.2.2.2.1 ≠ 11 ∧ p.2.2.2.1 ≠ 12 := by decide
  have tB : ∀ p ∈ dB, (p.2.2.1 < 69 ∧ p.2.2.1 ≠ 11 ∧ p.2.2.1 ≠ 12) ∧ (p.2.2.2.1 < 69 ∨ 100 ≤ p.2.2.2.1) := by decide
  have tO : ∀ p ∈ oB, p.2.1 < 69 ∨ 100 ≤ p.2.1 := by decide
  have g : ∀ k, k < 69 → k ≠ 11 → k ≠ 12 → σ'.2 k = σ.2 k := fun k h1 h2 h3 => S.2 k (Or.inl h1) h2 h3
  refine ⟨k, s, ⟨fun p hp => ?_, d2, fun p hp j hj => ?_, fun p hp j hj => ?_, fun p hp j hj i hi => ?_⟩, fun p hp => ?_, ?_, ?_, ?_, ?_, ?_, ?_, ?_, ?_⟩
  · rw [S.1 _ (tI p hp)]; exact d1 p hp
  · obtain ⟨⟨a, b, c⟩, d⟩ := tF p hp
    rw [S.ct d] at hj
    rw [g _ a b c]; exact d3 p hp j hj
  · obtain ⟨a, b, c⟩ := tA p hp
    rw [g _ a b c]; exact d4 p hp j hj
  · obtain ⟨⟨a, b, c⟩, d⟩ := tB p hp
    rw [S.ct d] at hj
    rw [g _ a b c]; exact d5 p hp j hj i hi
  · rw [S.ct (tO p hp)]; exact ob p hp
  · unfold CR; rw [S.cn (by omega), g 29 (by omega) (by omega) (by omega), g 30 (by omega) (by omega) (by omega)]; exact cr
  · unfold AC; rw [S.cn (by omega), S.1 64 (by omega), g 65 (by omega) (by omega) (by omega)]; exact ac
  · refine ⟨fun c hc => ?_, fun n hn => ?_⟩
    · rw [S.cn (by omega), S.lN]; exact tt.1 c hc
    · rw [S.cn (by omega)] at hn
      rw [S.lN, S.cix, g 10 (by omega) (by omega) (by omega)]; exact tt.2 n hn
  · unfold TP; rw [g 62 (by omega) (by omega) (by omega)]; exact tp
  · unfold TM
    rw [S.cn (by omega)]
    refine ⟨tm.1, fun t ht => ⟨(tm.2.1 t ht).1, ?_⟩, tm.2.2⟩
    have e := (tm.2.1 t ht).2
    unfold TM1 cs at e ⊢
    rw [g 14 (by omega) (by omega) (by omega), g 15 (by omega) (by omega) (by omega), g 16 (by omega) (by omega) (by omega), g 17 (by omega) (by omega) (by omega), g 18 (by omega) (by omega) (by omega), g 19 (by omega) (by omega) (by omega), g 20 (by omega) (by omega) (by omega), g 21 (by omega) (by omega) (by omega), g 22 (by omega) (by omega) (by omega), g 23 (by omega) (by omega) (by omega), g 24 (by omega) (by omega) (by omega)]
    exact e
  · rw [S.cn (by omega)]; exact l1
  · rw [S.cn (by omega)]; exact l2
  · rw [S.cn (by omega)]; exact l3
theorem WV.sg (W : WV σ) (S : SGE σ σ') (h11 : ∀ c, c < 1536 → σ'.2 11 c = σ.2 11 c) (h12 : ∀ c, c < 768 → σ'.2 12 c = σ.2 12 c) (h73 : σ'.1 73 = 12) : WV σ' := by
  obtain ⟨w1, w2, w3, ⟨t1, t2, t3⟩, ⟨q1, q2, q3⟩, w6⟩ := W
  have g : ∀ k, k < 69 → k ≠ 11 → k ≠ 12 → σ'.2 k = σ.2 k := fun k h1 h2 h3 => S.2 k (Or.inl h1) h2 h3
  have tm : ∀ q ∈ cmax, q.1 < 69 := by decide
  have tr : ∀ q ∈ wR, (q.1 < 69 ∧ q.1 ≠ 11 ∧ q.1 ≠ 12) ∧ (q.2.1 < 69 ∨ 100 ≤ q.2.1) ∧ (q.2.2 < 69 ∨ 100 ≤ q.2.2) := by decide
  refine ⟨fun q hq => ?_, fun q hq j hj => ?_, ?_, ⟨fun i hi => ?_, fun c hc => ?_, fun c hc => ?_⟩, ⟨?_, ?_, h73⟩, fun t ht => ?_⟩
  · rw [S.cn (tm q hq), S.1 _ (tm q hq)]; exact w1 q hq
  · obtain ⟨⟨a, b, c⟩, d, e⟩ := tr q hq
    rw [S.ct d] at hj
    rw [S.ct e, g _ a b c]
    exact w2 q hq j hj
  · unfold WL; rw [g 5 (by omega) (by omega) (by omega)]; exact w3
  · rw [S.cn (by omega)] at hi
    rw [S.cix, g 8 (by omega) (by omega) (by omega), g 9 (by omega) (by omega) (by omega), g 10 (by omega) (by omega) (by omega)]
    exact t1 i hi
  · rw [S.cn (by omega), S.vAt, h11 c hc]; exact t2 c hc
  · rw [S.cn (by omega), S.vAt, h12 c hc]; exact t3 c hc
  · rw [g 25 (by omega) (by omega) (by omega)]; exact q1
  · rw [g 6 (by omega) (by omega) (by omega)]; exact q2
  · rw [S.cn (by omega)] at ht
    have e := w6 t ht
    unfold TW CW CK cs cA cB at e ⊢
    rw [g 14 (by omega) (by omega) (by omega), g 15 (by omega) (by omega) (by omega), g 16 (by omega) (by omega) (by omega), g 17 (by omega) (by omega) (by omega), g 18 (by omega) (by omega) (by omega), g 19 (by omega) (by omega) (by omega), g 20 (by omega) (by omega) (by omega), g 21 (by omega) (by omega) (by omega), g 22 (by omega) (by omega) (by omega), g 24 (by omega) (by omega) (by omega)]
    exact e
theorem WX.sg (W : WX σ n) (S : SGE σ σ') : WX σ' n := by
  unfold WX WZ at W ⊢
  have g : ∀ k, k < 69 ∨ k = 71 → k ≠ 11 → k ≠ 12 → σ'.2 k = σ.2 k := S.2
  rw [S.cn (k := 26) (by omega), S.cn (k := 55) (by omega), S.1 54 (by omega), S.1 64 (by omega), g 32 (by omega) (by omega) (by omega), g 31 (by omega) (by omega) (by omega), g 33 (by omega) (by omega) (by omega), g 17 (by omega) (by omega) (by omega), g 18 (by omega) (by omega) (by omega), g 34 (by omega) (by omega) (by omega), g 62 (by omega) (by omega) (by omega), g 66 (by omega) (by omega) (by omega), g 67 (by omega) (by omega) (by omega), g 60 (by omega) (by omega) (by omega), g 71 (by omega) (by omega) (by omega)]
  exact W
theorem WX.up {m : Nat} (W : WX σ n) (hm : n ≤ m) : WX σ m := by
  refine ⟨fun j hj => ?_, W.2⟩
  obtain ⟨a, b, c⟩ := W.1 j hj
  exact ⟨a, bd_mono b (by have := Nat.mul_le_mul_left 989901 hm; omega), c⟩
theorem INV.up {m : Nat} (I : INV L xs h σ tr u n) (hm : n ≤ m) : INV L xs h σ tr u m := by
  obtain ⟨a, b, c, d, e, f⟩ := I
  exact ⟨a, b, c, d.up hm, e, by omega⟩
theorem INV.scr (I : INV L xs h σ tr u n) (S : SCR h h') : INV L xs h' σ tr u n := by
  obtain ⟨a, b, c, d, e, f⟩ := I
  refine ⟨a.scr S, b.scr S, c, d, ?_, f⟩
  obtain ⟨e1, e2, e3, e4, e5, e6⟩ := S
  rw [e1, e2, e6 9000 (by omega)]
  exact e
theorem INV.rf (I : INV L xs h σ tr u n) (F : FRc h h') (H : RS h' σ') (S : SGE σ σ') (h11 : ∀ c, c < 1536 → σ'.2 11 c = σ.2 11 c) (h12 : ∀ c, c < 768 → σ'.2 12 c = σ.2 12 c) (h73 : σ'.1 73 = 12) : INV L xs h' σ' tr u n := by
  obtain ⟨a, b, c, d, e, f⟩ := I
  refine ⟨(a.frc F).sg S, H, c.sg S h11 h12 h73, d.sg S, ?_, f⟩
  obtain ⟨e1, e2, e4, e5, e6⟩ := F
  rw [e1, e2, (e6 9000 (by omega)).2]
  exact e
theorem kT_sge {A B : Nat → Int32} : SGE σ (kT σ A B) := by
  refine ⟨fun _ _ => rfl, fun k _ h1 h2 => ?_⟩
  show (if k = 11 then A else if k = 12 then B else σ.2 k) = σ.2 k
  rw [if_neg h1, if_neg h2]
theorem INV.kT {A B : Nat → Int32} (I : INV L xs h σ tr u n) (F : FRc h h') (H : RS h' (kT σ A B)) (hA : ∀ c, c < 1536 → A c = σ.2 11 c) (hB : ∀ c, c < 768 → B c = σ.2 12 c) : INV L xs h' (kT σ A B) tr u n :=
  I.rf F H kT_sge hA hB I.2.2.1.2.2.2.2.1.2.2
end
