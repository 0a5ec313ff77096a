/-! ===== writes ===== -/
section
variable {L N : Nat} {xs : Nat → Int32} {h h' : AH} {σ σ' : SG} {tr : Nat → Nat} {u n : Nat}

theorem s2_row {k j a : Nat} {x : Int32} (e : a ≠ k) : (s2 σ k j x).2 a = σ.2 a := by
  show up2 σ.2 k j x a = σ.2 a
  unfold up2 va_up
  rw [if_neg e]
theorem s1_ne {k a : Nat} {x : Int32} (e : a ≠ k) : (s1 σ k x).1 a = σ.1 a := if_neg e
theorem s1_eq {k : Nat} {x : Int32} : (s1 σ k x).1 k = x := if_pos rfl
def ks1 : List Nat := [0, 7, 13, 26, 46, 64]
def ks2 : List Nat := [8, 9, 10, 14, 15, 16, 17, 18, 19, 20, 21, 22, 23, 24, 29, 30, 62, 65]
/-- the class has written where the relation sees it; all else stands -/
theorem CS.of (C : CS h σ tr u) (e1 : kd h' = kd h) (e2 : ln h' = ln h) (e4 : fr h' = fr h) (e5 : ar h' = ar h) (D : DD h' σ') (a1 : ∀ r, (30 ≤ r ∧ r ≤ 33) ∨ (390 ≤ r ∧ r < 414) ∨ 1000 ≤ r → ai h' r = ai h r)
    (f1 : ∀ j, j < 24 → fi h' (300 + j) 0 = fi h (300 + j) 0 ∧ fi h' (360 + j) = fi h (360 + j)) (f2 : ∀ r, 1000 ≤ r → fi h' r = fi h r) (g1 : ∀ k ∈ ks1, σ'.1 k = σ.1 k) (g2 : ∀ k ∈ ks2, σ'.2 k = σ.2 k) (W : CT σ) : CS h' σ' tr u := by
  obtain ⟨k, ⟨s1, s2, s3, s4, s5⟩, -, ob, cr, ac, tt, tp, tm, l1, l2, l3⟩ := C
  have hF := W.f
  have cN : ∀ k ∈ ks1, cn σ' k = cn σ k := fun k hk => by unfold cn; rw [g1 k hk]
  have tO : ∀ p ∈ oB, p.2.1 ∈ ks1 ∧ p.2.1 < 100 := by decide
  have hcix : ∀ i, cix σ' i = cix σ i := fun i => by unfold cix; rw [g2 8 (by decide), g2 9 (by decide)]
  have hlN : ∀ k c, lN_ σ' k c = lN_ σ k c := by
    intro k
    induction k with
    | zero => intro c; rfl
    | succ k ih => intro c; unfold lN_; rw [hcix, ih]
  refine ⟨?_, ⟨?_, ?_, ?_, ?_, ?_⟩, D, ?_, ?_, ?_, ?_, ?_, ?_, ?_, ?_, ?_⟩
  · unfold KS; rw [e1, e2, e4, e5]; exact k
  · rw [e1, e2, a1 _ (by omega)]; exact s1
  · rw [e1, e2, a1 _ (by omega)]; exact s2
  · intro i hi; rw [e1, e2, a1 _ (by omega)]; exact s3 i hi
  · rw [e1, e2]; exact s4
  · rw [e1]; exact s5
  · intro p hp
    have q := ob p hp
    have t := tO p hp
    have : ct σ' p.2.1 = ct σ p.2.1 := by unfold ct; rw [if_pos t.2, if_pos t.2, cN _ t.1]
    rw [this, e1]
    exact q
  · unfold CR
    rw [cN 26 (by decide)]
    refine ⟨fun j hj => ?_, by rw [e1]; exact cr.2⟩
    rw [e1, e2, e4, (f1 j (by omega)).1, (f1 j (by omega)).2, g2 29 (by decide), g2 30 (by decide)]
    exact cr.1 j hj
  · unfold AC
    rw [e4, cN 26 (by decide), g1 64 (by decide), g2 65 (by decide)]
    rcases ac with q | ⟨j, q1, q2, q3, q4⟩
    · exact Or.inl q
    · exact Or.inr ⟨j, q1, q2, by rw [(f1 j (by omega)).2]; exact q3, fun i hi hr => by rw [a1 _ (by omega)]; exact q4 i hi hr⟩
  · unfold TT
    rw [a1 30 (by omega), a1 31 (by omega), a1 32 (by omega), cN 7 (by decide), g2 10 (by decide)]
    refine ⟨fun c hc => by rw [hlN]; exact tt.1 c hc, fun n hn => by rw [hlN, hcix]; exact tt.2 n hn⟩
  · unfold TP; rw [a1 33 (by omega), g2 62 (by decide)]; exact tp
  · unfold TM
    rw [cN 13 (by decide)]
    refine ⟨by unfold LZ; rw [e1, e2, e4, e5]; exact tm.1, fun t ht => ⟨(tm.2.1 t ht).1, ?_⟩, by unfold TU; rw [e1]; exact tm.2.2⟩
    have e := (tm.2.1 t ht).2
    unfold TM1 cs at e ⊢
    rw [e1, e2, e4, f2 (1000 + 8 * tr t) (by omega), a1 (1000 + 8 * tr t + 1) (by omega), a1 (1000 + 8 * tr t + 2) (by omega), a1 (1000 + 8 * tr t + 3) (by omega), a1 (1000 + 8 * tr t + 4) (by omega), a1 (1000 + 8 * tr t + 5) (by omega), g2 14 (by decide), g2 15 (by decide), g2 16 (by decide), g2 17 (by decide), g2 18 (by decide), g2 19 (by decide), g2 20 (by decide), g2 21 (by decide), g2 22 (by decide), g2 23 (by decide), g2 24 (by decide)]
    exact e
  · unfold LZ; rw [e1, e2, e4, e5, cN 0 (by decide)]; exact l1
  · unfold LZ; rw [e1, e2, e4, e5, cN 26 (by decide)]; exact l2
  · unfold LZ; rw [e1, e2, e4, e5, cN 46 (by decide)]; exact l3
/-- the counts' bounds, as the relation's rows want them -/
theorem CT.F (W : CT σ) : ∀ q ∈ dF, ct σ q.2.2.2.1 ≤ q.2.2.2.2 := by
  have a := W.g
  have b := W.f
  have c := W.s
  have t : ∀ q ∈ dF, (q.2.2.2.1 = 0 ∧ q.2.2.2.2 = 8) ∨ (q.2.2.2.1 = 26 ∧ q.2.2.2.2 = 24) ∨ (q.2.2.2.1 = 46 ∧ q.2.2.2.2 = 8) ∨ (q.2.2.2.1 = 103 ∧ q.2.2.2.2 = 3) := by decide
  intro q hq
  rcases t q hq with ⟨e1, e2⟩ | ⟨e1, e2⟩ | ⟨e1, e2⟩ | ⟨e1, e2⟩
  · rw [e1, e2]; exact a.2
  · rw [e1, e2]; exact b.2
  · rw [e1, e2]; exact c.2
  · rw [e1, e2]; exact Nat.le_refl 3
theorem CT.B (W : CT σ) : ∀ q ∈ dB, ct σ q.2.2.2.1 ≤ q.2.2.2.2 := by
  have b := W.f
  have t : ∀ q ∈ dB, (q.2.2.2.1 = 26 ∧ q.2.2.2.2 = 24) ∨ (q.2.2.2.1 = 103 ∧ q.2.2.2.2 = 3) := by decide
  intro q hq
  rcases t q hq with ⟨e1, e2⟩ | ⟨e1, e2⟩
  · rw [e1, e2]; exact b.2
  · rw [e1, e2]; exact Nat.le_refl 3
/-- only cells of the class have changed: the reference's world stands -/
theorem RSof (H : RS h σ) (e1 : kd h' = kd h) (e2 : ln h' = ln h) (e4 : fr h' = fr h) (f : fi h' 100 = fi h 100) (a : ∀ k, k < 77 → ai h' (100 + k) = ai h (100 + k)) : RS h' σ := by
  obtain ⟨h1, h2, h3, h4⟩ := H
  refine ⟨by rw [e1]; exact h1, by rw [e1, e2, e4]; exact h2, by rw [f]; exact h3, fun k hk => by rw [a k hk]; exact h4 k hk⟩
theorem WR.w2 (W : WR σ) {k j : Nat} {x : Int32} (hx : ∀ q ∈ wR, q.1 = k → j < ct σ q.2.1 → bd x (ct σ q.2.2)) : WR (s2 σ k j x) := by
  intro q hq i hi
  rw [s2_ite]
  by_cases e : q.1 = k ∧ i = j
  · rw [if_pos e]; exact hx q hq e.1 (by rw [← e.2]; exact hi)
  · rw [if_neg e]; exact W q hq i hi
def vs1 : List Nat := [0, 7, 13, 26, 36, 41, 46, 49, 55, 63, 73]
def vs2 : List Nat := [6, 8, 9, 10, 11, 12, 14, 15, 16, 17, 18, 19, 20, 21, 22, 24, 25]
theorem WV.of (W : WV σ) (g1 : ∀ k ∈ vs1, σ'.1 k = σ.1 k) (g2 : ∀ k ∈ vs2, σ'.2 k = σ.2 k) (r : WR σ') (l : WL σ') : WV σ' := by
  obtain ⟨w1, -, -, ⟨t1, t2, t3⟩, ⟨q1, q2, q3⟩, w6⟩ := W
  have cN : ∀ k ∈ vs1, cn σ' k = cn σ k := fun k hk => by unfold cn; rw [g1 k hk]
  have tm : ∀ q ∈ cmax, q.1 ∈ vs1 := by decide
  have hcix : ∀ i, cix σ' i = cix σ i := fun i => by unfold cix; rw [g2 8 (by decide), g2 9 (by decide)]
  have hv : ∀ k c, vAt σ' k c = vAt σ k c := by
    intro k
    induction k with
    | zero => intro c; rfl
    | succ k ih => intro c; unfold vAt; rw [hcix, ih, g2 10 (by decide)]
  refine ⟨fun q hq => ?_, r, l, ⟨fun i hi => ?_, fun c hc => ?_, fun c hc => ?_⟩, ⟨?_, ?_, ?_⟩, fun t ht => ?_⟩
  · rw [cN _ (tm q hq), g1 _ (tm q hq)]; exact w1 q hq
  · rw [cN 7 (by decide)] at hi
    rw [hcix, g2 8 (by decide), g2 9 (by decide), g2 10 (by decide)]
    exact t1 i hi
  · rw [cN 7 (by decide), hv, g2 11 (by decide)]; exact t2 c hc
  · rw [cN 7 (by decide), hv, g2 12 (by decide)]; exact t3 c hc
  · rw [g2 25 (by decide)]; exact q1
  · rw [g2 6 (by decide)]; exact q2
  · rw [g1 73 (by decide)]; exact q3
  · rw [cN 13 (by decide)] at ht
    have e := w6 t ht
    unfold TW CW CK cs cA cB at e ⊢
    rw [g2 14 (by decide), g2 15 (by decide), g2 16 (by decide), g2 17 (by decide), g2 18 (by decide), g2 19 (by decide), g2 20 (by decide), g2 21 (by decide), g2 22 (by decide), g2 24 (by decide)]
    exact e
theorem vs2_row {k j : Nat} {x : Int32} (hk : k ∉ vs2) : ∀ a ∈ vs2, (s2 σ k j x).2 a = σ.2 a := fun a ha => s2_row (fun e => hk (e ▸ ha))
theorem ks2_row {k j : Nat} {x : Int32} (hk : k ∉ ks2) : ∀ a ∈ ks2, (s2 σ k j x).2 a = σ.2 a := fun a ha => s2_row (fun e => hk (e ▸ ha))
theorem vs1_s1 {k : Nat} {x : Int32} (hk : k ∉ vs1) : ∀ a ∈ vs1, (s1 σ k x).1 a = σ.1 a := fun a ha => s1_ne (fun e => hk (e ▸ ha))
theorem ks1_s1 {k : Nat} {x : Int32} (hk : k ∉ ks1) : ∀ a ∈ ks1, (s1 σ k x).1 a = σ.1 a := fun a ha => s1_ne (fun e => hk (e ▸ ha))
theorem WR.w2_1 (W : WR σ) {j : Nat} {x : Int32} (hx : bd x (100)) : WR (s2 σ 1 j x) := W.w2 (fun q hq e _ => by
  have t : ∀ q ∈ wR, q.1 = 1 → q.2.2 = 200 := by decide
  rw [t q hq e]; exact hx)
theorem WR.w2_2 (W : WR σ) {j : Nat} {x : Int32} (hx : bd x (100)) : WR (s2 σ 2 j x) := W.w2 (fun q hq e _ => by
  have t : ∀ q ∈ wR, q.1 = 2 → q.2.2 = 200 := by decide
  rw [t q hq e]; exact hx)
theorem WR.w2_3 (W : WR σ) {j : Nat} {x : Int32} (hx : bd x (16)) : WR (s2 σ 3 j x) := W.w2 (fun q hq e _ => by
  have t : ∀ q ∈ wR, q.1 = 3 → q.2.2 = 116 := by decide
  rw [t q hq e]; exact hx)
theorem WR.w2_4 (W : WR σ) {j : Nat} {x : Int32} (hx : bd x (17)) : WR (s2 σ 4 j x) := W.w2 (fun q hq e _ => by
  have t : ∀ q ∈ wR, q.1 = 4 → q.2.2 = 117 := by decide
  rw [t q hq e]; exact hx)
theorem WR.w2_27 (W : WR σ) {j : Nat} {x : Int32} (hx : bd x (100)) : WR (s2 σ 27 j x) := W.w2 (fun q hq e _ => by
  have t : ∀ q ∈ wR, q.1 = 27 → q.2.2 = 200 := by decide
  rw [t q hq e]; exact hx)
theorem WR.w2_28 (W : WR σ) {j : Nat} {x : Int32} (hx : bd x (100)) : WR (s2 σ 28 j x) := W.w2 (fun q hq e _ => by
  have t : ∀ q ∈ wR, q.1 = 28 → q.2.2 = 200 := by decide
  rw [t q hq e]; exact hx)
theorem WR.w2_29 (W : WR σ) {j : Nat} {x : Int32} (hx : bd x (4)) : WR (s2 σ 29 j x) := W.w2 (fun q hq e _ => by
  have t : ∀ q ∈ wR, q.1 = 29 → q.2.2 = 104 := by decide
  rw [t q hq e]; exact hx)
theorem WR.w2_30 (W : WR σ) {j : Nat} {x : Int32} (hx : bd x (100)) : WR (s2 σ 30 j x) := W.w2 (fun q hq e _ => by
  have t : ∀ q ∈ wR, q.1 = 30 → q.2.2 = 200 := by decide
  rw [t q hq e]; exact hx)
theorem WR.w2_33 (W : WR σ) {j : Nat} {x : Int32} (hx : bd x (3)) : WR (s2 σ 33 j x) := W.w2 (fun q hq e _ => by
  have t : ∀ q ∈ wR, q.1 = 33 → q.2.2 = 103 := by decide
  rw [t q hq e]; exact hx)
theorem WR.w2_35 (W : WR σ) {j : Nat} {x : Int32} (hx : bd x (6)) : WR (s2 σ 35 j x) := W.w2 (fun q hq e _ => by
  have t : ∀ q ∈ wR, q.1 = 35 → q.2.2 = 106 := by decide
  rw [t q hq e]; exact hx)
theorem WR.w2_37 (W : WR σ) {j : Nat} {x : Int32} (hx : bd x (cn σ 26)) : WR (s2 σ 37 j x) := W.w2 (fun q hq e _ => by
  have t : ∀ q ∈ wR, q.1 = 37 → q.2.2 = 26 := by decide
  rw [t q hq e]; exact hx)
theorem WR.w2_38 (W : WR σ) {j : Nat} {x : Int32} (hx : bd x (cn σ 13)) : WR (s2 σ 38 j x) := W.w2 (fun q hq e _ => by
  have t : ∀ q ∈ wR, q.1 = 38 → q.2.2 = 13 := by decide
  rw [t q hq e]; exact hx)
theorem WR.w2_39 (W : WR σ) {j : Nat} {x : Int32} (hx : bd x (16)) : WR (s2 σ 39 j x) := W.w2 (fun q hq e _ => by
  have t : ∀ q ∈ wR, q.1 = 39 → q.2.2 = 116 := by decide
  rw [t q hq e]; exact hx)
theorem WR.w2_40 (W : WR σ) {j : Nat} {x : Int32} (hx : bd x (17)) : WR (s2 σ 40 j x) := W.w2 (fun q hq e _ => by
  have t : ∀ q ∈ wR, q.1 = 40 → q.2.2 = 117 := by decide
  rw [t q hq e]; exact hx)
theorem WR.w2_42 (W : WR σ) {j : Nat} {x : Int32} (hx : bd x (cn σ 26)) : WR (s2 σ 42 j x) := W.w2 (fun q hq e _ => by
  have t : ∀ q ∈ wR, q.1 = 42 → q.2.2 = 26 := by decide
  rw [t q hq e]; exact hx)
theorem WR.w2_43 (W : WR σ) {j : Nat} {x : Int32} (hx : bd x (16)) : WR (s2 σ 43 j x) := W.w2 (fun q hq e _ => by
  have t : ∀ q ∈ wR, q.1 = 43 → q.2.2 = 116 := by decide
  rw [t q hq e]; exact hx)
theorem WR.w2_44 (W : WR σ) {j : Nat} {x : Int32} (hx : bd x (10000)) : WR (s2 σ 44 j x) := W.w2 (fun q hq e _ => by
  have t : ∀ q ∈ wR, q.1 = 44 → q.2.2 = 10100 := by decide
  rw [t q hq e]; exact hx)
theorem WR.w2_45 (W : WR σ) {j : Nat} {x : Int32} (hx : bd x (10000)) : WR (s2 σ 45 j x) := W.w2 (fun q hq e _ => by
  have t : ∀ q ∈ wR, q.1 = 45 → q.2.2 = 10100 := by decide
  rw [t q hq e]; exact hx)
theorem WR.w2_47 (W : WR σ) {j : Nat} {x : Int32} (hx : bd x (100)) : WR (s2 σ 47 j x) := W.w2 (fun q hq e _ => by
  have t : ∀ q ∈ wR, q.1 = 47 → q.2.2 = 200 := by decide
  rw [t q hq e]; exact hx)
theorem WR.w2_48 (W : WR σ) {j : Nat} {x : Int32} (hx : bd x (100)) : WR (s2 σ 48 j x) := W.w2 (fun q hq e _ => by
  have t : ∀ q ∈ wR, q.1 = 48 → q.2.2 = 200 := by decide
  rw [t q hq e]; exact hx)
theorem WR.w2_50 (W : WR σ) {j : Nat} {x : Int32} (hx : bd x (cn σ 26)) : WR (s2 σ 50 j x) := W.w2 (fun q hq e _ => by
  have t : ∀ q ∈ wR, q.1 = 50 → q.2.2 = 26 := by decide
  rw [t q hq e]; exact hx)
theorem WR.w2_51 (W : WR σ) {j : Nat} {x : Int32} (hx : bd x (16)) : WR (s2 σ 51 j x) := W.w2 (fun q hq e _ => by
  have t : ∀ q ∈ wR, q.1 = 51 → q.2.2 = 116 := by decide
  rw [t q hq e]; exact hx)
theorem WR.w2_52 (W : WR σ) {j : Nat} {x : Int32} (hx : bd x (990000)) : WR (s2 σ 52 j x) := W.w2 (fun q hq e _ => by
  have t : ∀ q ∈ wR, q.1 = 52 → q.2.2 = 990100 := by decide
  rw [t q hq e]; exact hx)
theorem WR.w2_53 (W : WR σ) {j : Nat} {x : Int32} (hx : bd x (4)) : WR (s2 σ 53 j x) := W.w2 (fun q hq e _ => by
  have t : ∀ q ∈ wR, q.1 = 53 → q.2.2 = 104 := by decide
  rw [t q hq e]; exact hx)
theorem WR.w2_56 (W : WR σ) {j : Nat} {x : Int32} (hx : bd x (cn σ 26)) : WR (s2 σ 56 j x) := W.w2 (fun q hq e _ => by
  have t : ∀ q ∈ wR, q.1 = 56 → q.2.2 = 26 := by decide
  rw [t q hq e]; exact hx)
theorem WR.w2_57 (W : WR σ) {j : Nat} {x : Int32} (hx : bd x (16)) : WR (s2 σ 57 j x) := W.w2 (fun q hq e _ => by
  have t : ∀ q ∈ wR, q.1 = 57 → q.2.2 = 116 := by decide
  rw [t q hq e]; exact hx)
theorem WR.w2_58 (W : WR σ) {j : Nat} {x : Int32} (hx : bd x (cn σ 13)) : WR (s2 σ 58 j x) := W.w2 (fun q hq e _ => by
  have t : ∀ q ∈ wR, q.1 = 58 → q.2.2 = 13 := by decide
  rw [t q hq e]; exact hx)
theorem WR.w2_59 (W : WR σ) {j : Nat} {x : Int32} (hx : bd x (3)) : WR (s2 σ 59 j x) := W.w2 (fun q hq e _ => by
  have t : ∀ q ∈ wR, q.1 = 59 → q.2.2 = 103 := by decide
  rw [t q hq e]; exact hx)
theorem WR.w2_n (W : WR σ) {k j : Nat} {x : Int32} (hk : ∀ q ∈ wR, q.1 ≠ k) : WR (s2 σ k j x) := W.w2 (fun q hq e _ => absurd e (hk q hq))
theorem pub_down {a b : Int32} (I : INV L xs h σ tr u n) : ∃ v h1 h2 σ' tr' u', f_X11_down h 1 a b = some (v, h1) ∧ f_X12_down h1 100 a b = some (v, h2) ∧ (kd h1 9000 = 30 ∧ ln h1 9000 = L ∧ ai h1 9000 = xs) ∧ INV L xs h2 σ' tr' u' (n + 1) := by
  obtain ⟨C, H, W, X, S, U⟩ := id I
  have hG := W.1.g
  have hT := W.1.t
  have hF := W.1.f
  have hTl := W.1.tl
  rcases okC a (n := cn σ 0) (by omega) with oa | ⟨oa, g, hg, rfl⟩
  · exact ⟨-1, h, h, σ, tr, u, by simp only [f_X11_down, obs, b10, b01, bm, if_true_, if_false_, eq_self, not_true_eq_false, not_false_eq_true, true_or, or_true, or_false, false_or, and_true, true_and, and_false, false_and, or_self, and_self, Bool.false_eq_true, ite_self, n25, n20, n24, n100, kk1 C, RS.kk H, c_isGauge C W.1, c_isTerm C W.1, c_isFarm C W.1, c_isSeason, c_isPlace, r_isGauge H W.1, r_isTerm H W.1, r_isFarm H W.1, r_isSeason, r_isWeek, r_isPlace, r_isSheet, ci1, ri1, ci2, ri2, ci3, ri3, ci4, ri4, ci5, ri5, ci11, ri11, ci16, ri16, ci98, ri98, ci99, ri99, ci198, ri198, ci9999, ri9999, oa], by simp only [f_X12_down, obs, b10, b01, bm, if_true_, if_false_, eq_self, not_true_eq_false, not_false_eq_true, true_or, or_true, or_false, false_or, and_true, true_and, and_false, false_and, or_self, and_self, Bool.false_eq_true, ite_self, n25, n20, n24, n100, kk1 C, RS.kk H, c_isGauge C W.1, c_isTerm C W.1, c_isFarm C W.1, c_isSeason, c_isPlace, r_isGauge H W.1, r_isTerm H W.1, r_isFarm H W.1, r_isSeason, r_isWeek, r_isPlace, r_isSheet, ci1, ri1, ci2, ri2, ci3, ri3, ci4, ri4, ci5, ri5, ci11, ri11, ci16, ri16, ci98, ri98, ci99, ri99, ci198, ri198, ci9999, ri9999, oa], I.2.2.2.2.1, I.up (by omega)⟩
  rcases okC b (n := 17) (by decide) with ob | ⟨ob, s, hs, rfl⟩
  · exact ⟨-1, h, h, σ, tr, u, by simp only [f_X11_down, obs, b10, b01, bm, if_true_, if_false_, eq_self, not_true_eq_false, not_false_eq_true, true_or, or_true, or_false, false_or, and_true, true_and, and_false, false_and, or_self, and_self, Bool.false_eq_true, ite_self, n25, n20, n24, n100, kk1 C, RS.kk H, c_isGauge C W.1, c_isTerm C W.1, c_isFarm C W.1, c_isSeason, c_isPlace, r_isGauge H W.1, r_isTerm H W.1, r_isFarm H W.1, r_isSeason, r_isWeek, r_isPlace, r_isSheet, ci1, ri1, ci2, ri2, ci3, ri3, ci4, ri4, ci5, ri5, ci11, ri11, ci16, ri16, ci98, ri98, ci99, ri99, ci198, ri198, ci9999, ri9999, oa, ob], by simp only [f_X12_down, obs, b10, b01, bm, if_true_, if_false_, eq_self, not_true_eq_false, not_false_eq_true, true_or, or_true, or_false, false_or, and_true, true_and, and_false, false_and, or_self, and_self, Bool.false_eq_true, ite_self, n25, n20, n24, n100, kk1 C, RS.kk H, c_isGauge C W.1, c_isTerm C W.1, c_isFarm C W.1, c_isSeason, c_isPlace, r_isGauge H W.1, r_isTerm H W.1, r_isFarm H W.1, r_isSeason, r_isWeek, r_isPlace, r_isSheet, ci1, ri1, ci2, ri2, ci3, ri3, ci4, ri4, ci5, ri5, ci11, ri11, ci16, ri16, ci98, ri98, ci99, ri99, ci198, ri198, ci9999, ri9999, oa, ob], I.2.2.2.2.1, I.up (by omega)⟩
  have hx : xpi h (200 + g) 4 3 (nI s) = some (sfi h (200 + g) 3 (nI s)) := by unfold xpi; rw [if_pos (kd200 C hg)]
  have H1 : RS (sfi h (200 + g) 3 (nI s)) σ := RSof H rfl rfl rfl (fi_sfi_ne (by omega)) (fun _ _ => rfl)
  have hw := (rw4 H1 (n := g) (x := nI s) (by omega))
  have C1 : CS (sfi h (200 + g) 3 (nI s)) (s2 σ 4 g (nI s)) tr u := C.of rfl rfl rfl rfl (C.d.wF W.1.F (b := 200) (f := 3) (k := 4) (c := 0) (m := 8) (by decide) hg) (fun _ _ => rfl) (fun j hj => ⟨by rw [fi_sfi, if_neg (by omega)], fi_sfi_ne (by omega)⟩) (fun r hr => fi_sfi_ne (by omega)) (fun _ _ => rfl) (ks2_row (by decide)) W.1
  refine ⟨1, sfi h (200 + g) 3 (nI s), sai (sfi h (200 + g) 3 (nI s)) 104 g (nI s), s2 σ 4 g (nI s), tr, u, ?_, ?_, I.2.2.2.2.1, C1.frc (FRc.a (by omega) (by omega)), hw.2, W.of (fun _ _ => rfl) (vs2_row (by decide)) (W.2.1.w2_4 ⟨s, by omega, rfl⟩) W.2.2.1, ?_, ?_, by omega⟩
  · simp (disch := omega) only [f_X11_down, obs, b10, b01, bm, if_true_, if_false_, eq_self, not_true_eq_false, not_false_eq_true, true_or, or_true, or_false, false_or, and_true, true_and, and_false, false_and, or_self, and_self, Bool.false_eq_true, ite_self, n25, n20, n24, n100, kk1 C, RS.kk H, c_isGauge C W.1, c_isTerm C W.1, c_isFarm C W.1, c_isSeason, c_isPlace, r_isGauge H W.1, r_isTerm H W.1, r_isFarm H W.1, r_isSeason, r_isWeek, r_isPlace, r_isSheet, ci1, ri1, ci2, ri2, ci3, ri3, ci4, ri4, ci5, ri5, ci11, ri11, ci16, ri16, ci98, ri98, ci99, ri99, ci198, ri198, ci9999, ri9999, oa, ob, kr1_0 C, kg10 C W.1, kc200 C, hx]
  · simp (disch := omega) only [f_X12_down, obs, b10, b01, bm, if_true_, if_false_, eq_self, not_true_eq_false, not_false_eq_true, true_or, or_true, or_false, false_or, and_true, true_and, and_false, false_and, or_self, and_self, Bool.false_eq_true, ite_self, n25, n20, n24, n100, RS.kk H1, r_isGauge H1 W.1, ri16, oa, ob, rg4 H1, hw.1]
  · exact X.up (by omega)
  · rw [ai_sai_ne (by omega)]; exact I.2.2.2.2.1
end
