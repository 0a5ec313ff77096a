/-! ===== public: rain, green, lay ===== -/
section
variable {L N : Nat} {xs : Nat → Int32} {h h' : AH} {σ σ' : SG} {tr : Nat → Nat} {u n : Nat}
def ks3 : List Nat := [0, 13, 26, 46, 64]
def ks4 : List Nat := [14, 15, 16, 17, 18, 19, 20, 21, 22, 23, 24, 29, 30, 65]
theorem CS.of4 (C : CS h σ tr u) (e1 : kd h' = kd h) (e2 : ln h' = ln h) (e4 : fr h' = fr h) (e5 : ar h' = ar h) (D : DD h' σ') (a1 : ∀ r, (390 ≤ r ∧ r < 414) ∨ 1000 ≤ r → ai h' r = ai h r)
    (f1 : ∀ j, j < 24 → fi h' (300 + j) 0 = fi h (300 + j) 0 ∧ fi h' (360 + j) = fi h (360 + j)) (f2 : ∀ r, 1000 ≤ r → fi h' r = fi h r) (g1 : ∀ k ∈ ks3, σ'.1 k = σ.1 k) (g2 : ∀ k ∈ ks4, σ'.2 k = σ.2 k) (tt : TT h' σ') (tp : TP h' σ') (W : CT σ) : CS h' σ' tr u := by
  obtain ⟨k, ⟨s1, s2, s3, s4, s5⟩, -, ob, cr, ac, -, -, tm, l1, l2, l3⟩ := C
  have hF := W.f
  have cN : ∀ k ∈ ks3, cn σ' k = cn σ k := fun k hk => by unfold cn; rw [g1 k hk]
  have tO : ∀ p ∈ oB, p.2.1 ∈ ks3 ∧ p.2.1 < 100 := by decide
  refine ⟨?_, ⟨?_, ?_, ?_, ?_, ?_⟩, D, ?_, ?_, ?_, tt, tp, ?_, ?_, ?_, ?_⟩
  · unfold KS; rw [e1, e2, e4, e5]; exact k
  · rw [e1, e2, a1 _ (by omega)]; exact s1
  · rw [e1, e2, a1 _ (by omega)]; exact s2
  · intro i hi; rw [e1, e2, a1 _ (by omega)]; exact s3 i hi
  · rw [e1, e2]; exact s4
  · rw [e1]; exact s5
  · intro p hp
    have q := ob p hp
    have t := tO p hp
    have : ct σ' p.2.1 = ct σ p.2.1 := by unfold ct; rw [if_pos t.2, if_pos t.2, cN _ t.1]
    rw [this, e1]
    exact q
  · unfold CR
    rw [cN 26 (by decide)]
    refine ⟨fun j hj => ?_, by rw [e1]; exact cr.2⟩
    rw [e1, e2, e4, (f1 j (by omega)).1, (f1 j (by omega)).2, g2 29 (by decide), g2 30 (by decide)]
    exact cr.1 j hj
  · unfold AC
    rw [e4, cN 26 (by decide), g1 64 (by decide), g2 65 (by decide)]
    rcases ac with q | ⟨j, q1, q2, q3, q4⟩
    · exact Or.inl q
    · exact Or.inr ⟨j, q1, q2, by rw [(f1 j (by omega)).2]; exact q3, fun i hi hr => by rw [a1 _ (by omega)]; exact q4 i hi hr⟩
  · unfold TM
    rw [cN 13 (by decide)]
    refine ⟨by unfold LZ; rw [e1, e2, e4, e5]; exact tm.1, fun t ht => ⟨(tm.2.1 t ht).1, ?_⟩, by unfold TU; rw [e1]; exact tm.2.2⟩
    have e := (tm.2.1 t ht).2
    unfold TM1 cs at e ⊢
    rw [e1, e2, e4, f2 (1000 + 8 * tr t) (by omega), a1 (1000 + 8 * tr t + 1) (by omega), a1 (1000 + 8 * tr t + 2) (by omega), a1 (1000 + 8 * tr t + 3) (by omega), a1 (1000 + 8 * tr t + 4) (by omega), a1 (1000 + 8 * tr t + 5) (by omega), g2 14 (by decide), g2 15 (by decide), g2 16 (by decide), g2 17 (by decide), g2 18 (by decide), g2 19 (by decide), g2 20 (by decide), g2 21 (by decide), g2 22 (by decide), g2 23 (by decide), g2 24 (by decide)]
    exact e
  · unfold LZ; rw [e1, e2, e4, e5, cN 0 (by decide)]; exact l1
  · unfold LZ; rw [e1, e2, e4, e5, cN 26 (by decide)]; exact l2
  · unfold LZ; rw [e1, e2, e4, e5, cN 46 (by decide)]; exact l3
def telK (g : Bool) : Nat := if g then 12 else 11
def telC (g : Bool) (at_ : Nat) : Nat := (if g then 1536 else 0) + at_
def telA (σ : SG) (g : Bool) (at_ : Nat) (v : Int32) : SG := s1 (s2 (s2 (s2 σ 8 (cn σ 7) (bI g)) 9 (cn σ 7) (nI at_)) 10 (cn σ 7) v) 7 (nI (cn σ 7 + 1))
def telS (σ : SG) (g : Bool) (at_ : Nat) (v : Int32) : SG := s2 (telA σ g at_ v) (telK g) at_ v
def telH (h : AH) (σ : SG) (c : Nat) (v : Int32) : AH := sai (sai (sai (sfi h 14 3 (nI (cn σ 7 + 1))) 31 (cn σ 7 + 1) (nI (lN_ σ (cn σ 7) c))) 32 (cn σ 7 + 1) v) 30 c (nI (cn σ 7 + 1))
section
variable {g : Bool} {a : Nat} {v : Int32}
theorem telK_or : telK g = 11 ∨ telK g = 12 := by cases g <;> simp [telK]
theorem telS_r {k : Nat} (e : k ≠ 8 ∧ k ≠ 9 ∧ k ≠ 10 ∧ k ≠ 11 ∧ k ≠ 12) : (telS σ g a v).2 k = σ.2 k := by
  have := telK_or (g := g)
  unfold telS
  rw [s2_row (by omega)]
  show (s2 (s2 (s2 σ 8 (cn σ 7) (bI g)) 9 (cn σ 7) (nI a)) 10 (cn σ 7) v).2 k = σ.2 k
  rw [s2_row (by omega), s2_row (by omega), s2_row (by omega)]
theorem telS_1 {k : Nat} (e : k ≠ 7) : (telS σ g a v).1 k = σ.1 k := s1_ne e
theorem telS_c (W : CT σ) : cn (telS σ g a v) 7 = cn σ 7 + 1 := by
  have := W.tl
  exact cn_eq (show (s1 σ 7 (nI (cn σ 7 + 1))).1 7 = nI (cn σ 7 + 1) from s1_eq) (by omega)
theorem telS_8 {j : Nat} : (telS σ g a v).2 8 j = if j = cn σ 7 then bI g else σ.2 8 j := by
  have := telK_or (g := g)
  unfold telS
  rw [s2_row (by omega)]
  show (s2 (s2 (s2 σ 8 (cn σ 7) (bI g)) 9 (cn σ 7) (nI a)) 10 (cn σ 7) v).2 8 j = _
  rw [s2_row (by omega), s2_row (by omega), s2_ite]
  by_cases e : j = cn σ 7
  · rw [if_pos ⟨rfl, e⟩, if_pos e]
  · rw [if_neg (fun z => e z.2), if_neg e]
theorem telS_9 {j : Nat} : (telS σ g a v).2 9 j = if j = cn σ 7 then nI a else σ.2 9 j := by
  have := telK_or (g := g)
  unfold telS
  rw [s2_row (by omega)]
  show (s2 (s2 (s2 σ 8 (cn σ 7) (bI g)) 9 (cn σ 7) (nI a)) 10 (cn σ 7) v).2 9 j = _
  rw [s2_row (by omega), s2_ite]
  by_cases e : j = cn σ 7
  · rw [if_pos ⟨rfl, e⟩, if_pos e]
  · rw [if_neg (fun z => e z.2), if_neg e, s2_row (by omega)]
theorem telS_10 {j : Nat} : (telS σ g a v).2 10 j = if j = cn σ 7 then v else σ.2 10 j := by
  have := telK_or (g := g)
  unfold telS
  rw [s2_row (by omega)]
  show (s2 (s2 (s2 σ 8 (cn σ 7) (bI g)) 9 (cn σ 7) (nI a)) 10 (cn σ 7) v).2 10 j = _
  rw [s2_ite]
  by_cases e : j = cn σ 7
  · rw [if_pos ⟨rfl, e⟩, if_pos e]
  · rw [if_neg (fun z => e z.2), if_neg e, s2_row (by omega), s2_row (by omega)]
theorem telS_k {k j : Nat} (hk : k = 11 ∨ k = 12) : (telS σ g a v).2 k j = if k = telK g ∧ j = a then v else σ.2 k j := by
  unfold telS
  rw [s2_ite]
  by_cases e : k = telK g ∧ j = a
  · rw [if_pos e, if_pos e]
  · rw [if_neg e, if_neg e]
    show (s2 (s2 (s2 σ 8 (cn σ 7) (bI g)) 9 (cn σ 7) (nI a)) 10 (cn σ 7) v).2 k j = _
    rw [s2_row (by omega), s2_row (by omega), s2_row (by omega)]
theorem tel_cix {i : Nat} (ha : a < 1536) : cix (telS σ g a v) i = if i = cn σ 7 then telC g a else cix σ i := by
  unfold cix
  rw [telS_8, telS_9]
  by_cases e : i = cn σ 7
  · rw [if_pos e, if_pos e, if_pos e, nI_clamp (by omega)]
    cases g
    · rw [if_pos bI_f]; rfl
    · rw [if_neg (by decide)]; rfl
  · rw [if_neg e, if_neg e, if_neg e]
theorem tel_lN (ha : a < 1536) : ∀ k c, k ≤ cn σ 7 → lN_ (telS σ g a v) k c = lN_ σ k c := by
  intro k
  induction k with
  | zero => intro c _; rfl
  | succ k ih =>
    intro c hk
    have e : cix (telS σ g a v) k = cix σ k := by rw [tel_cix ha, if_neg (by omega)]
    unfold lN_
    rw [e, ih c (by omega)]
theorem tel_vAt (ha : a < 1536) : ∀ k c, k ≤ cn σ 7 → vAt (telS σ g a v) k c = vAt σ k c := by
  intro k
  induction k with
  | zero => intro c _; rfl
  | succ k ih =>
    intro c hk
    have e : cix (telS σ g a v) k = cix σ k := by rw [tel_cix ha, if_neg (by omega)]
    have e2 : (telS σ g a v).2 10 k = σ.2 10 k := by rw [telS_10, if_neg (by omega)]
    unfold vAt
    rw [e, ih c (by omega), e2]
theorem tel_vN (ha : a < 1536) {c : Nat} : vAt (telS σ g a v) (cn σ 7 + 1) c = if telC g a = c then v else vAt σ (cn σ 7) c := by
  show (if cix (telS σ g a v) (cn σ 7) = c then (telS σ g a v).2 10 (cn σ 7) else vAt (telS σ g a v) (cn σ 7) c) = _
  rw [tel_cix ha, if_pos rfl, telS_10, if_pos rfl, tel_vAt ha _ _ (Nat.le_refl _)]
theorem tel_cs (C : CS h σ tr u) (W : WV σ) (hT : cn σ 7 < 700) (ha : a < if g then 768 else 1536) : CS (telH h σ (telC g a) v) (telS σ g a v) tr u := by
  have ha' : a < 1536 := by cases g <;> simp at ha <;> omega
  have hc : telC g a < 2304 := by unfold telC; cases g <;> simp at ha ⊢ <;> omega
  have tA : ∀ q ∈ dA, q.1 ≠ 30 ∧ q.1 ≠ 31 ∧ q.1 ≠ 32 := by decide
  have tB : ∀ q ∈ dB, 32 < q.1 := by decide
  have tF2 : ∀ q ∈ dF, q.2.2.1 ≠ 8 ∧ q.2.2.1 ≠ 9 ∧ q.2.2.1 ≠ 10 ∧ q.2.2.1 ≠ 11 ∧ q.2.2.1 ≠ 12 := by decide
  have tA2 : ∀ q ∈ dA, q.2.2.2.1 ≠ 8 ∧ q.2.2.2.1 ≠ 9 ∧ q.2.2.2.1 ≠ 10 ∧ q.2.2.2.1 ≠ 11 ∧ q.2.2.2.1 ≠ 12 := by decide
  have tB2 : ∀ q ∈ dB, q.2.2.1 ≠ 8 ∧ q.2.2.1 ≠ 9 ∧ q.2.2.1 ≠ 10 ∧ q.2.2.1 ≠ 11 ∧ q.2.2.1 ≠ 12 := by decide
  have D0 : DD (sfi h 14 3 (nI (cn σ 7 + 1))) (s1 σ 7 (nI (cn σ 7 + 1))) := C.d.wI W.1.F (r := 14) (f := 3) (k := 7) (by decide) (by decide)
  have cB : ∀ q ∈ dB, ct (s1 σ 7 (nI (cn σ 7 + 1))) q.2.2.2.1 ≤ q.2.2.2.2 := by
    have t : ∀ q ∈ dB, q.2.2.2.1 ≠ 7 := by decide
    intro q hq
    rw [ct_s1 (t q hq)]; exact W.1.B q hq
  have D1 := ((D0.oA cB (r := 31) (i := cn σ 7 + 1) (x := nI (lN_ σ (cn σ 7) (telC g a))) (fun q hq => fun z => (tA q hq).2.1 z.symm) (fun q hq => by have := tB q hq; omega)).oA cB (r := 32) (i := cn σ 7 + 1) (x := v) (fun q hq => fun z => (tA q hq).2.2 z.symm) (fun q hq => by have := tB q hq; omega)).oA cB (r := 30) (i := telC g a) (x := nI (cn σ 7 + 1)) (fun q hq => fun z => (tA q hq).1 z.symm) (fun q hq => by have := tB q hq; omega)
  have D2 := ((D1.o2 (k := 8) (j := cn σ 7) (x := bI g) (fun q hq => (tF2 q hq).1) (fun q hq => (tA2 q hq).1) (fun q hq => (tB2 q hq).1)).o2 (k := 9) (j := cn σ 7) (x := nI a) (fun q hq => (tF2 q hq).2.1) (fun q hq => (tA2 q hq).2.1) (fun q hq => (tB2 q hq).2.1)).o2 (k := 10) (j := cn σ 7) (x := v) (fun q hq => (tF2 q hq).2.2.1) (fun q hq => (tA2 q hq).2.2.1) (fun q hq => (tB2 q hq).2.2.1)
  have ko := telK_or (g := g)
  have D3 := D2.o2 (k := telK g) (j := a) (x := v) (fun q hq => by have := tF2 q hq; omega) (fun q hq => by have := tA2 q hq; omega) (fun q hq => by have := tB2 q hq; omega)
  refine C.of4 rfl rfl rfl rfl D3 (fun r hr => ?_) (fun j hj => ⟨?_, ?_⟩) (fun r hr => ?_) (fun k hk => ?_) (fun k hk => ?_) ⟨fun c hc' => ?_, fun i hi => ?_⟩ ?_ W.1
  · unfold telH
    rw [ai_sai_ne (by omega), ai_sai_ne (by omega), ai_sai_ne (by omega)]; rfl
  · show fi (sfi h 14 3 (nI (cn σ 7 + 1))) (300 + j) 0 = _
    rw [fi_sfi_ne (by omega)]
  · show fi (sfi h 14 3 (nI (cn σ 7 + 1))) (360 + j) = _
    rw [fi_sfi_ne (by omega)]
  · show fi (sfi h 14 3 (nI (cn σ 7 + 1))) r = _
    rw [fi_sfi_ne (by omega)]
  · have t : ∀ k ∈ ks3, k ≠ 7 := by decide
    exact telS_1 (t k hk)
  · have t : ∀ k ∈ ks4, k ≠ 8 ∧ k ≠ 9 ∧ k ≠ 10 ∧ k ≠ 11 ∧ k ≠ 12 := by decide
    exact telS_r (t k hk)
  · rw [telS_c W.1]
    show _ = nI (if cix (telS σ g a v) (cn σ 7) = c then cn σ 7 + 1 else lN_ (telS σ g a v) (cn σ 7) c)
    rw [tel_cix ha', if_pos rfl, tel_lN ha' _ _ (Nat.le_refl _)]
    unfold telH
    rw [ai_sai]
    by_cases e : c = telC g a
    · rw [if_pos ⟨rfl, e⟩, if_pos e.symm]
    · rw [if_neg (fun z => e z.2), if_neg (fun z => e z.symm), ai_sai_ne (by omega), ai_sai_ne (by omega)]
      exact C.2.2.2.2.2.2.1.1 c hc'
  · rw [telS_c W.1] at hi
    rw [tel_cix ha', tel_lN ha' _ _ (by omega), telS_10]
    unfold telH
    rw [ai_sai_ne (show 31 ≠ 30 by omega), ai_sai_ne (show 31 ≠ 32 by omega), ai_sai, ai_sai_ne (show 32 ≠ 30 by omega), ai_sai]
    by_cases e : i = cn σ 7
    · subst e
      refine ⟨?_, ?_⟩
      · rw [if_pos ⟨rfl, rfl⟩, if_pos rfl]
      · rw [if_pos ⟨rfl, rfl⟩, if_pos rfl]
    · have z := C.2.2.2.2.2.2.1.2 i (by omega)
      refine ⟨?_, ?_⟩
      · rw [if_neg (by omega), if_neg e]; exact z.1
      · rw [if_neg (by omega), if_neg e, ai_sai_ne (show 32 ≠ 31 by omega)]; exact z.2
  · unfold TP telH
    rw [ai_sai_ne (by omega), ai_sai_ne (by omega), ai_sai_ne (by omega), telS_r (by decide)]
    exact C.2.2.2.2.2.2.2.1
theorem tel_wv (W : WV σ) (hT : cn σ 7 < 700) (ha : a < if g then 768 else 1536) (hv : bd (v + 1) 10001) : WV (telS σ g a v) := by
  have ha' : a < 1536 := by cases g <;> simp at ha <;> omega
  have hc : telC g a < 2304 := by unfold telC; cases g <;> simp at ha ⊢ <;> omega
  obtain ⟨w1, w2, w3, ⟨t1, t2, t3⟩, ⟨q1, q2, q3⟩, w6⟩ := W
  have c' := telS_c (σ := σ) (g := g) (a := a) (v := v) w1
  refine ⟨fun q hq => ?_, fun q hq j hj => ?_, ?_, ⟨fun i hi => ?_, fun c hc' => ?_, fun c hc' => ?_⟩, ⟨?_, ?_, ?_⟩, fun t ht => ?_⟩
  · by_cases e : q.1 = 7
    · have t : ∀ q ∈ cmax, q.1 = 7 → q.2 = 700 := by decide
      rw [t q hq e, e, c']
      exact ⟨(show (s1 σ 7 (nI (cn σ 7 + 1))).1 7 = nI (cn σ 7 + 1) from s1_eq), by omega⟩
    · have ec : cn (telS σ g a v) q.1 = cn σ q.1 := by unfold cn; rw [telS_1 e]
      rw [ec, telS_1 e]; exact w1 q hq
  · have t : ∀ q ∈ wR, (q.1 ≠ 8 ∧ q.1 ≠ 9 ∧ q.1 ≠ 10 ∧ q.1 ≠ 11 ∧ q.1 ≠ 12) ∧ q.2.1 ≠ 7 ∧ q.2.2 ≠ 7 := by decide
    obtain ⟨z1, z2, z3⟩ := t q hq
    have ec : ∀ k, k ≠ 7 → ct (telS σ g a v) k = ct σ k := fun k hk => by unfold ct cn; rw [telS_1 hk]
    rw [ec _ z2] at hj
    rw [ec _ z3, telS_r z1]
    exact w2 q hq j hj
  · unfold WL; rw [telS_r (by decide)]; exact w3
  · rw [c'] at hi
    rw [tel_cix ha', telS_8, telS_9, telS_10]
    by_cases e : i = cn σ 7
    · rw [if_pos e, if_pos e, if_pos e, if_pos e]
      refine ⟨hc, by cases g <;> simp [bI], ?_, hv⟩
      cases g
      · rw [if_pos bI_f]; exact ⟨a, by simpa using ha, rfl⟩
      · rw [if_neg (by decide)]; exact ⟨a, by simpa using ha, rfl⟩
    · rw [if_neg e, if_neg e, if_neg e, if_neg e]
      exact t1 i (by omega)
  · rw [c', tel_vN ha', telS_k (Or.inl rfl), t2 c hc']
    cases g
    · by_cases e : c = a
      · rw [if_pos ⟨rfl, e⟩, if_pos (show telC false a = c by simp [telC]; omega)]
      · rw [if_neg (fun z => e z.2), if_neg (show ¬ telC false a = c by simp [telC]; omega)]
    · rw [if_neg (by simp [telK]), if_neg (show ¬ telC true a = c by simp [telC]; omega)]
  · rw [c', tel_vN ha', telS_k (Or.inr rfl), t3 c hc']
    cases g
    · have ha2 : a < 1536 := ha'
      rw [if_neg (by simp [telK]), if_neg (show ¬ telC false a = 1536 + c by simp [telC]; omega)]
    · by_cases e : c = a
      · rw [if_pos ⟨rfl, e⟩, if_pos (show telC true a = 1536 + c by simp [telC]; omega)]
      · rw [if_neg (fun z => e z.2), if_neg (show ¬ telC true a = 1536 + c by simp [telC]; omega)]
  · rw [telS_r (by decide)]; exact q1
  · rw [telS_r (by decide)]; exact q2
  · rw [telS_1 (by decide)]; exact q3
  · have ec : cn (telS σ g a v) 13 = cn σ 13 := by unfold cn; rw [telS_1 (by decide)]
    rw [ec] at ht
    have e := w6 t ht
    unfold TW CW CK cs cA cB at e ⊢
    rw [telS_r (k := 14) (by decide), telS_r (k := 15) (by decide), telS_r (k := 16) (by decide), telS_r (k := 17) (by decide), telS_r (k := 18) (by decide), telS_r (k := 19) (by decide), telS_r (k := 20) (by decide), telS_r (k := 21) (by decide), telS_r (k := 22) (by decide), telS_r (k := 24) (by decide)]
    exact e
theorem tel_wx (X : WX σ n) : WX (telS σ g a v) n := X.of (fun k hk => by
  have t : ∀ k ∈ xs1, k ≠ 7 := by decide
  exact telS_1 (t k hk)) (fun k hk => by
  have t : ∀ k ∈ xs2, k ≠ 8 ∧ k ≠ 9 ∧ k ≠ 10 ∧ k ≠ 11 ∧ k ≠ 12 := by decide
  exact telS_r (t k hk))
theorem tel_rs {c : Nat} (H : RS h σ') : RS (telH h σ c v) σ' := rsA (rsA (rsA (rsF H (by omega)) (by omega)) (by omega)) (by omega)
theorem tel_9 {c : Nat} (S : kd h 9000 = 30 ∧ ln h 9000 = L ∧ ai h 9000 = xs) : kd (telH h σ c v) 9000 = 30 ∧ ln (telH h σ c v) 9000 = L ∧ ai (telH h σ c v) 9000 = xs := sai_9 (sai_9 (sai_9 (sfi_9 S) (by omega)) (by omega)) (by omega)
end
theorem c_tell (C : CS h σ tr u) (W : CT σ) {r s w : Nat} {v : Int32} (hr : r < 12) (hs : s < 16) (hw : w < 12) (hT : cn σ 7 < 700) : f_X9_tell h 14 (nI r) (nI s) (nI w) v = some (nI (cn σ 7 + 1), telH h σ (sp r s w) v) := by
  have hTl := W.tl
  have hc : sp r s w < 2304 := sp_lt hr hs hw
  have hsp : ((nI r * 16 + nI s) * 12 + nI w) = nI (sp r s w) := by unfold sp; rw [lt16, lt12, nI_mul, nI_add, nI_mul, nI_add, Nat.mul_comm r 16]
  have f14 : fi (sfi h 14 3 (nI (cn σ 7 + 1))) 14 3 = nI (cn σ 7 + 1) := by rw [fi_sfi, if_pos ⟨rfl, rfl⟩]
  have x30 : xia (sfi h 14 3 (nI (cn σ 7 + 1))) 30 (nI (sp r s w)) = some (nI (lN_ σ (cn σ 7) (sp r s w))) := xia_of (show kd h 30 = 20 from kk30 C) (show ln h 30 = 2304 from kl C (by decide)) hc (by decide) (C.2.2.2.2.2.2.1.1 _ hc)
  have y31 : xis (sfi h 14 3 (nI (cn σ 7 + 1))) 31 (nI (cn σ 7 + 1)) (nI (lN_ σ (cn σ 7) (sp r s w))) = some _ := xis_of (show kd h 31 = 20 from kk31 C) (show ln h 31 = 701 from kl C (by decide)) (show cn σ 7 + 1 < 701 by omega) (by decide)
  have y32 : ∀ z : AH, kd z = kd h → ln z = ln h → xis z 32 (nI (cn σ 7 + 1)) v = some (sai z 32 (cn σ 7 + 1) v) := fun z e1 e2 => xis_of (by rw [e1]; exact kk32 C) (by rw [e2]; exact kl C (by decide)) (show cn σ 7 + 1 < 701 by omega) (by decide)
  have y30 : ∀ z : AH, kd z = kd h → ln z = ln h → xis z 30 (nI (sp r s w)) (nI (cn σ 7 + 1)) = some (sai z 30 (sp r s w) (nI (cn σ 7 + 1))) := fun z e1 e2 => xis_of (by rw [e1]; exact kk30 C) (by rw [e2]; exact kl C (by decide)) hc (by decide)
  have g0 : ∀ z : AH, kd z = kd h → fr z = fr h → xgr z 14 10 0 = some 30 ∧ xgr z 14 10 1 = some 31 ∧ xgr z 14 10 2 = some 32 := fun z e1 e2 => by
    refine ⟨?_, ?_, ?_⟩
    · rw [← kr14_0 C]; unfold xgr; rw [e1, e2]
    · rw [← kr14_1 C]; unfold xgr; rw [e1, e2]
    · rw [← kr14_2 C]; unfold xgr; rw [e1, e2]
  have gi : ∀ z : AH, kd z = kd h → fi z = fi (sfi h 14 3 (nI (cn σ 7 + 1))) → xgi z 14 10 3 = some (nI (cn σ 7 + 1)) := fun z e1 e2 => by
    rw [xgi_ok (by rw [e1]; exact kk14 C), e2, f14]
  unfold f_X9_tell
  rw [if_pos (kk14 C), ki14_3 C, obs, hTl.1, nI_1, xpi_ok (kk14 C), obs, (g0 (sfi h 14 3 (nI (cn σ 7 + 1))) rfl rfl).2.1, obs, gi (sfi h 14 3 (nI (cn σ 7 + 1))) rfl rfl, obs, (g0 (sfi h 14 3 (nI (cn σ 7 + 1))) rfl rfl).1, obs, hsp, x30, obs, y31, obs, (g0 (sai (sfi h 14 3 (nI (cn σ 7 + 1))) 31 (cn σ 7 + 1) (nI (lN_ σ (cn σ 7) (sp r s w)))) rfl rfl).2.2, obs, gi (sai (sfi h 14 3 (nI (cn σ 7 + 1))) 31 (cn σ 7 + 1) (nI (lN_ σ (cn σ 7) (sp r s w)))) rfl rfl, obs, y32 (sai (sfi h 14 3 (nI (cn σ 7 + 1))) 31 (cn σ 7 + 1) (nI (lN_ σ (cn σ 7) (sp r s w)))) rfl rfl, obs, (g0 (sai (sai (sfi h 14 3 (nI (cn σ 7 + 1))) 31 (cn σ 7 + 1) (nI (lN_ σ (cn σ 7) (sp r s w)))) 32 (cn σ 7 + 1) v) rfl rfl).1, obs, gi (sai (sai (sfi h 14 3 (nI (cn σ 7 + 1))) 31 (cn σ 7 + 1) (nI (lN_ σ (cn σ 7) (sp r s w)))) 32 (cn σ 7 + 1) v) rfl rfl, obs, y30 (sai (sai (sfi h 14 3 (nI (cn σ 7 + 1))) 31 (cn σ 7 + 1) (nI (lN_ σ (cn σ 7) (sp r s w)))) 32 (cn σ 7 + 1) v) rfl rfl, obs, gi (sai (sai (sai (sfi h 14 3 (nI (cn σ 7 + 1))) 31 (cn σ 7 + 1) (nI (lN_ σ (cn σ 7) (sp r s w)))) 32 (cn σ 7 + 1) v) 30 (sp r s w) (nI (cn σ 7 + 1))) rfl rfl, obs]
  rfl
theorem r_tells {g : Bool} {a : Nat} {v : Int32} (H : RS h σ) (W : CT σ) (hT : cn σ 7 < 700) (ha : a < if g then 768 else 1536) : ∃ h', f_X12_tells h 100 (bI g) (nI a) v = some h' ∧ FRc h h' ∧ RS h' (telS σ g a v) := by
  have hTl := W.tl
  have w1 := rw8 H (n := cn σ 7) (x := bI g) (by cases g <;> simp [bI]) hT
  have w2 := rw9 w1.2 (n := cn σ 7) (x := nI a) hT
  have w3 := rw10 w2.2 (n := cn σ 7) (x := v) hT
  have w4 := w3.2.fi 7 (nI (cn σ 7 + 1))
  have c1 : (s2 σ 8 (cn σ 7) (bI g)).1 7 = nI (cn σ 7) := hTl.1
  have c2 : (s2 (s2 σ 8 (cn σ 7) (bI g)) 9 (cn σ 7) (nI a)).1 7 = nI (cn σ 7) := hTl.1
  have c3 : (s2 (s2 (s2 σ 8 (cn σ 7) (bI g)) 9 (cn σ 7) (nI a)) 10 (cn σ 7) v).1 7 = nI (cn σ 7) := hTl.1
  have F4 : FRc h (sfi (sai (sai (sai h 108 (cn σ 7) (bI g)) 109 (cn σ 7) (nI a)) 110 (cn σ 7) v) 100 7 (nI (cn σ 7 + 1))) := (((FRc.a (by omega) (by omega)).trans (FRc.a (by omega) (by omega))).trans (FRc.a (by omega) (by omega))).trans FRc.f
  have pre : f_X12_tells h 100 (bI g) (nI a) v = (if bI g = 0 then (xgr (sfi (sai (sai (sai h 108 (cn σ 7) (bI g)) 109 (cn σ 7) (nI a)) 110 (cn σ 7) v) 100 7 (nI (cn σ 7 + 1))) 100 13 11).bind fun v13 => (xis (sfi (sai (sai (sai h 108 (cn σ 7) (bI g)) 109 (cn σ 7) (nI a)) 110 (cn σ 7) v) 100 7 (nI (cn σ 7 + 1))) v13 (nI a) v).bind fun h14 => some h14 else (xgr (sfi (sai (sai (sai h 108 (cn σ 7) (bI g)) 109 (cn σ 7) (nI a)) 110 (cn σ 7) v) 100 7 (nI (cn σ 7 + 1))) 100 13 12).bind fun v15 => (xis (sfi (sai (sai (sai h 108 (cn σ 7) (bI g)) 109 (cn σ 7) (nI a)) 110 (cn σ 7) v) 100 7 (nI (cn σ 7 + 1))) v15 (nI a) v).bind fun h16 => some h16) := by
    unfold f_X12_tells
    rw [if_pos H.1, rg8 H, obs, RS.gi H, obs, hTl.1, w1.1, obs, rg9 w1.2, obs, RS.gi w1.2, obs, c1, w2.1, obs, rg10 w2.2, obs, RS.gi w2.2, obs, c2, w3.1, obs, RS.gi w3.2, obs, c3, nI_1, w3.2.pi, obs]
  cases g
  · have ha2 : a < 1536 := by simpa using ha
    have w5 := rw11 w4 (n := a) (x := v) (show a < 3072 by omega)
    refine ⟨_, ?_, F4.trans (FRc.a (r := 111) (by omega) (by omega)), w5.2⟩
    rw [pre, if_pos bI_f, rg11 w4, obs, w5.1, obs]
  · have ha2 : a < 768 := by simpa using ha
    have w5 := rw12 w4 (n := a) (x := v) (show a < 1536 by omega)
    refine ⟨_, ?_, F4.trans (FRc.a (r := 112) (by omega) (by omega)), w5.2⟩
    rw [pre, if_neg (by decide), rg12 w4, obs, w5.1, obs]
theorem c_room (C : CS h σ tr u) (W : CT σ) {k : Nat} (hk : k ≤ 12) : f_X9_haveRoomFor h 14 (nI k) = some (if cn σ 7 + k ≤ 700 then 1 else 0) := by
  have hTl := W.tl
  unfold f_X9_haveRoomFor
  rw [if_pos (kk14 C), ki14_3 C, obs, hTl.1, nI_add, lt700]
  by_cases q : cn σ 7 + k ≤ 700
  · rw [if_neg (fun z => by have := (nI_ltI (by omega) (by omega)).mp z; omega), if_pos q]
  · rw [if_pos (nI_lt (by omega) (by omega)), if_neg q]
theorem pub_rain {a b c d : Int32} (I : INV L xs h σ tr u n) : ∃ v h1 h2 σ' tr' u', f_X11_rain h 1 a b c d = some (v, h1) ∧ f_X12_rain h1 100 a b c d = some (v, h2) ∧ (kd h1 9000 = 30 ∧ ln h1 9000 = L ∧ ai h1 9000 = xs) ∧ INV L xs h2 σ' tr' u' (n + 1) := by
  obtain ⟨C, H, W, X, S, U⟩ := id I
  have hG := W.1.g
  have hTl := W.1.tl
  rcases okC a (n := cn σ 0) (by omega) with oa | ⟨oa, g, hg, rfl⟩
  · exact ⟨-1, h, h, σ, tr, u, by simp only [f_X11_rain, f_X11_isGaugeWeek, obs, b10, b01, bm, if_true_, if_false_, eq_self, not_true_eq_false, not_false_eq_true, true_or, or_true, or_false, false_or, and_true, true_and, and_false, false_and, or_self, and_self, Bool.false_eq_true, ite_self, n25, n20, n24, n100, kk1 C, RS.kk H, c_isGauge C W.1, c_isTerm C W.1, c_isFarm C W.1, c_isSeason, c_isPlace, r_isGauge H W.1, r_isTerm H W.1, r_isFarm H W.1, r_isSeason, r_isWeek, r_isPlace, r_isSheet, ci1, ri1, ci2, ri2, ci3, ri3, ci4, ri4, ci5, ri5, ci11, ri11, ci16, ri16, ci98, ri98, ci99, ri99, ci198, ri198, ci9999, ri9999, oa], by simp only [f_X12_rain, obs, b10, b01, bm, if_true_, if_false_, eq_self, not_true_eq_false, not_false_eq_true, true_or, or_true, or_false, false_or, and_true, true_and, and_false, false_and, or_self, and_self, Bool.false_eq_true, ite_self, n25, n20, n24, n100, kk1 C, RS.kk H, c_isGauge C W.1, c_isTerm C W.1, c_isFarm C W.1, c_isSeason, c_isPlace, r_isGauge H W.1, r_isTerm H W.1, r_isFarm H W.1, r_isSeason, r_isWeek, r_isPlace, r_isSheet, ci1, ri1, ci2, ri2, ci3, ri3, ci4, ri4, ci5, ri5, ci11, ri11, ci16, ri16, ci98, ri98, ci99, ri99, ci198, ri198, ci9999, ri9999, oa], S, I.up (by omega)⟩
  rcases okC b (n := 16) (by decide) with ob | ⟨ob, s, hs, rfl⟩
  · exact ⟨-1, h, h, σ, tr, u, by simp only [f_X11_rain, f_X11_isGaugeWeek, obs, b10, b01, bm, if_true_, if_false_, eq_self, not_true_eq_false, not_false_eq_true, true_or, or_true, or_false, false_or, and_true, true_and, and_false, false_and, or_self, and_self, Bool.false_eq_true, ite_self, n25, n20, n24, n100, kk1 C, RS.kk H, c_isGauge C W.1, c_isTerm C W.1, c_isFarm C W.1, c_isSeason, c_isPlace, r_isGauge H W.1, r_isTerm H W.1, r_isFarm H W.1, r_isSeason, r_isWeek, r_isPlace, r_isSheet, ci1, ri1, ci2, ri2, ci3, ri3, ci4, ri4, ci5, ri5, ci11, ri11, ci16, ri16, ci98, ri98, ci99, ri99, ci198, ri198, ci9999, ri9999, oa, ob], by simp only [f_X12_rain, obs, b10, b01, bm, if_true_, if_false_, eq_self, not_true_eq_false, not_false_eq_true, true_or, or_true, or_false, false_or, and_true, true_and, and_false, false_and, or_self, and_self, Bool.false_eq_true, ite_self, n25, n20, n24, n100, kk1 C, RS.kk H, c_isGauge C W.1, c_isTerm C W.1, c_isFarm C W.1, c_isSeason, c_isPlace, r_isGauge H W.1, r_isTerm H W.1, r_isFarm H W.1, r_isSeason, r_isWeek, r_isPlace, r_isSheet, ci1, ri1, ci2, ri2, ci3, ri3, ci4, ri4, ci5, ri5, ci11, ri11, ci16, ri16, ci98, ri98, ci99, ri99, ci198, ri198, ci9999, ri9999, oa, ob], S, I.up (by omega)⟩
  rcases okC c (n := 12) (by decide) with oc | ⟨oc, w, hw, rfl⟩
  · exact ⟨-1, h, h, σ, tr, u, by simp only [f_X11_rain, f_X11_isGaugeWeek, obs, b10, b01, bm, if_true_, if_false_, eq_self, not_true_eq_false, not_false_eq_true, true_or, or_true, or_false, false_or, and_true, true_and, and_false, false_and, or_self, and_self, Bool.false_eq_true, ite_self, n25, n20, n24, n100, kk1 C, RS.kk H, c_isGauge C W.1, c_isTerm C W.1, c_isFarm C W.1, c_isSeason, c_isPlace, r_isGauge H W.1, r_isTerm H W.1, r_isFarm H W.1, r_isSeason, r_isWeek, r_isPlace, r_isSheet, ci1, ri1, ci2, ri2, ci3, ri3, ci4, ri4, ci5, ri5, ci11, ri11, ci16, ri16, ci98, ri98, ci99, ri99, ci198, ri198, ci9999, ri9999, oa, ob, oc], by simp only [f_X12_rain, obs, b10, b01, bm, if_true_, if_false_, eq_self, not_true_eq_false, not_false_eq_true, true_or, or_true, or_false, false_or, and_true, true_and, and_false, false_and, or_self, and_self, Bool.false_eq_true, ite_self, n25, n20, n24, n100, kk1 C, RS.kk H, c_isGauge C W.1, c_isTerm C W.1, c_isFarm C W.1, c_isSeason, c_isPlace, r_isGauge H W.1, r_isTerm H W.1, r_isFarm H W.1, r_isSeason, r_isWeek, r_isPlace, r_isSheet, ci1, ri1, ci2, ri2, ci3, ri3, ci4, ri4, ci5, ri5, ci11, ri11, ci16, ri16, ci98, ri98, ci99, ri99, ci198, ri198, ci9999, ri9999, oa, ob, oc], S, I.up (by omega)⟩
  rcases in_m1 (h := h) (v := d) (m := 10000) (hi := 9999) (by decide) (by decide) with ⟨q1, q2⟩ | ⟨q1, q2, q3⟩
  · exact ⟨-2, h, h, σ, tr, u, by simp only [f_X11_rain, f_X11_isGaugeWeek, obs, b10, b01, bm, if_true_, if_false_, eq_self, not_true_eq_false, not_false_eq_true, true_or, or_true, or_false, false_or, and_true, true_and, and_false, false_and, or_self, and_self, Bool.false_eq_true, ite_self, n25, n20, n24, n100, kk1 C, RS.kk H, c_isGauge C W.1, c_isTerm C W.1, c_isFarm C W.1, c_isSeason, c_isPlace, r_isGauge H W.1, r_isTerm H W.1, r_isFarm H W.1, r_isSeason, r_isWeek, r_isPlace, r_isSheet, ci1, ri1, ci2, ri2, ci3, ri3, ci4, ri4, ci5, ri5, ci11, ri11, ci16, ri16, ci98, ri98, ci99, ri99, ci198, ri198, ci9999, ri9999, oa, ob, oc, q2], by simp only [f_X12_rain, obs, b10, b01, bm, if_true_, if_false_, eq_self, not_true_eq_false, not_false_eq_true, true_or, or_true, or_false, false_or, and_true, true_and, and_false, false_and, or_self, and_self, Bool.false_eq_true, ite_self, n25, n20, n24, n100, kk1 C, RS.kk H, c_isGauge C W.1, c_isTerm C W.1, c_isFarm C W.1, c_isSeason, c_isPlace, r_isGauge H W.1, r_isTerm H W.1, r_isFarm H W.1, r_isSeason, r_isWeek, r_isPlace, r_isSheet, ci1, ri1, ci2, ri2, ci3, ri3, ci4, ri4, ci5, ri5, ci11, ri11, ci16, ri16, ci98, ri98, ci99, ri99, ci198, ri198, ci9999, ri9999, oa, ob, oc, q1], S, I.up (by omega)⟩
  have rm := c_room C W.1 (k := 1) (by omega)
  rw [il1] at rm
  by_cases qf : cn σ 7 = 700
  · have rm0 : f_X9_haveRoomFor h 14 1 = some 0 := by rw [rm, if_neg (by omega)]
    have e7 : σ.1 7 = 700 := by rw [hTl.1, qf]; exact lt700.symm
    exact ⟨-4, h, h, σ, tr, u, by simp only [f_X11_rain, f_X11_isGaugeWeek, obs, b10, b01, bm, if_true_, if_false_, eq_self, not_true_eq_false, not_false_eq_true, true_or, or_true, or_false, false_or, and_true, true_and, and_false, false_and, or_self, and_self, Bool.false_eq_true, ite_self, n25, n20, n24, n100, kk1 C, RS.kk H, c_isGauge C W.1, c_isTerm C W.1, c_isFarm C W.1, c_isSeason, c_isPlace, r_isGauge H W.1, r_isTerm H W.1, r_isFarm H W.1, r_isSeason, r_isWeek, r_isPlace, r_isSheet, ci1, ri1, ci2, ri2, ci3, ri3, ci4, ri4, ci5, ri5, ci11, ri11, ci16, ri16, ci98, ri98, ci99, ri99, ci198, ri198, ci9999, ri9999, oa, ob, oc, q2, kr1_4 C, rm0], by simp only [f_X12_rain, obs, b10, b01, bm, if_true_, if_false_, eq_self, not_true_eq_false, not_false_eq_true, true_or, or_true, or_false, false_or, and_true, true_and, and_false, false_and, or_self, and_self, Bool.false_eq_true, ite_self, n25, n20, n24, n100, kk1 C, RS.kk H, c_isGauge C W.1, c_isTerm C W.1, c_isFarm C W.1, c_isSeason, c_isPlace, r_isGauge H W.1, r_isTerm H W.1, r_isFarm H W.1, r_isSeason, r_isWeek, r_isPlace, r_isSheet, ci1, ri1, ci2, ri2, ci3, ri3, ci4, ri4, ci5, ri5, ci11, ri11, ci16, ri16, ci98, ri98, ci99, ri99, ci198, ri198, ci9999, ri9999, oa, ob, oc, q1, RS.gi H, e7], S, I.up (by omega)⟩
  have hT : cn σ 7 < 700 := by omega
  have rm1 : f_X9_haveRoomFor h 14 1 = some 1 := by rw [rm, if_pos (by omega)]
  have hsp : sp g s w < 1536 := by have := sp_lt (n := 8) (show g < 8 by omega) hs hw; omega
  have hsp' : sp g s w < if false = true then 768 else 1536 := by simpa using hsp
  have ct0 : telC false (sp g s w) = sp g s w := by simp [telC]
  have C1 := tel_cs (v := d) C W hT hsp'
  rw [ct0] at C1
  have t1 := c_tell C W.1 (r := g) (v := d) (by omega) hs hw hT
  have H1 : RS (telH h σ (sp g s w) d) σ := tel_rs H
  have S1 := tel_9 (σ := σ) (c := sp g s w) (v := d) S
  obtain ⟨h2, t2, F2, H2⟩ := r_tells (v := d) H1 W.1 hT hsp'
  have q1' : f_X12_in (telH h σ (sp g s w) d) d (-1) 9999 = some 1 := q1
  have hne : ¬ σ.1 7 = 700 := by rw [hTl.1, lt700, nI_eq (by omega) (by decide)]; exact qf
  have e2 : xgi h2 100 13 7 = some (nI (cn σ 7 + 1)) := by rw [RS.gi H2]; exact congrArg some (show (s1 σ 7 (nI (cn σ 7 + 1))).1 7 = nI (cn σ 7 + 1) from s1_eq)
  have t2' : f_X12_tells (telH h σ (sp g s w) d) 100 0 (nI (sp g s w)) d = some h2 := t2
  refine ⟨nI (cn σ 7 + 1), telH h σ (sp g s w) d, h2, telS σ false (sp g s w) d, tr, u, ?_, ?_, S1, I.st C1 F2 H2 (tel_wv W hT hsp' q3) (tel_wx (X.up (by omega))) S1 (by omega)⟩
  · simp only [f_X11_rain, f_X11_isGaugeWeek, obs, b10, b01, bm, if_true_, if_false_, eq_self, not_true_eq_false, not_false_eq_true, true_or, or_true, or_false, false_or, and_true, true_and, and_false, false_and, or_self, and_self, Bool.false_eq_true, ite_self, n25, n20, n24, n100, kk1 C, RS.kk H, c_isGauge C W.1, c_isTerm C W.1, c_isFarm C W.1, c_isSeason, c_isPlace, r_isGauge H W.1, r_isTerm H W.1, r_isFarm H W.1, r_isSeason, r_isWeek, r_isPlace, r_isSheet, ci1, ri1, ci2, ri2, ci3, ri3, ci4, ri4, ci5, ri5, ci11, ri11, ci16, ri16, ci98, ri98, ci99, ri99, ci198, ri198, ci9999, ri9999, oa, ob, oc, q2, kr1_4 C, rm1, t1]
  · simp only [f_X12_rain, obs, b10, b01, bm, if_true_, if_false_, eq_self, not_true_eq_false, not_false_eq_true, true_or, or_true, or_false, false_or, and_true, true_and, and_false, false_and, or_self, and_self, Bool.false_eq_true, ite_self, n25, n20, n24, n100, RS.kk H1, r_isGauge H1 W.1, r_isSeason, r_isWeek, oa, ob, oc, q1', RS.gi H1, hne, r_spotOf, t2', e2]
theorem pub_green {a b c d : Int32} (I : INV L xs h σ tr u n) : ∃ v h1 h2 σ' tr' u', f_X11_green h 1 a b c d = some (v, h1) ∧ f_X12_green h1 100 a b c d = some (v, h2) ∧ (kd h1 9000 = 30 ∧ ln h1 9000 = L ∧ ai h1 9000 = xs) ∧ INV L xs h2 σ' tr' u' (n + 1) := by
  obtain ⟨C, H, W, X, S, U⟩ := id I
  have hG := W.1.g
  have hTl := W.1.tl
  rcases okC a (n := 4) (by decide) with oa | ⟨oa, g, hg, rfl⟩
  · exact ⟨-1, h, h, σ, tr, u, by simp only [f_X11_green, f_X11_isDistrictWeek, obs, b10, b01, bm, if_true_, if_false_, eq_self, not_true_eq_false, not_false_eq_true, true_or, or_true, or_false, false_or, and_true, true_and, and_false, false_and, or_self, and_self, Bool.false_eq_true, ite_self, n25, n20, n24, n100, kk1 C, RS.kk H, c_isGauge C W.1, c_isTerm C W.1, c_isFarm C W.1, c_isSeason, c_isPlace, r_isGauge H W.1, r_isTerm H W.1, r_isFarm H W.1, r_isSeason, r_isWeek, r_isPlace, r_isSheet, ci1, ri1, ci2, ri2, ci3, ri3, ci4, ri4, ci5, ri5, ci11, ri11, ci16, ri16, ci98, ri98, ci99, ri99, ci198, ri198, ci9999, ri9999, oa], by simp only [f_X12_green, obs, b10, b01, bm, if_true_, if_false_, eq_self, not_true_eq_false, not_false_eq_true, true_or, or_true, or_false, false_or, and_true, true_and, and_false, false_and, or_self, and_self, Bool.false_eq_true, ite_self, n25, n20, n24, n100, kk1 C, RS.kk H, c_isGauge C W.1, c_isTerm C W.1, c_isFarm C W.1, c_isSeason, c_isPlace, r_isGauge H W.1, r_isTerm H W.1, r_isFarm H W.1, r_isSeason, r_isWeek, r_isPlace, r_isSheet, ci1, ri1, ci2, ri2, ci3, ri3, ci4, ri4, ci5, ri5, ci11, ri11, ci16, ri16, ci98, ri98, ci99, ri99, ci198, ri198, ci9999, ri9999, oa], S, I.up (by omega)⟩
  rcases okC b (n := 16) (by decide) with ob | ⟨ob, s, hs, rfl⟩
  · exact ⟨-1, h, h, σ, tr, u, by simp only [f_X11_green, f_X11_isDistrictWeek, obs, b10, b01, bm, if_true_, if_false_, eq_self, not_true_eq_false, not_false_eq_true, true_or, or_true, or_false, false_or, and_true, true_and, and_false, false_and, or_self, and_self, Bool.false_eq_true, ite_self, n25, n20, n24, n100, kk1 C, RS.kk H, c_isGauge C W.1, c_isTerm C W.1, c_isFarm C W.1, c_isSeason, c_isPlace, r_isGauge H W.1, r_isTerm H W.1, r_isFarm H W.1, r_isSeason, r_isWeek, r_isPlace, r_isSheet, ci1, ri1, ci2, ri2, ci3, ri3, ci4, ri4, ci5, ri5, ci11, ri11, ci16, ri16, ci98, ri98, ci99, ri99, ci198, ri198, ci9999, ri9999, oa, ob], by simp only [f_X12_green, obs, b10, b01, bm, if_true_, if_false_, eq_self, not_true_eq_false, not_false_eq_true, true_or, or_true, or_false, false_or, and_true, true_and, and_false, false_and, or_self, and_self, Bool.false_eq_true, ite_self, n25, n20, n24, n100, kk1 C, RS.kk H, c_isGauge C W.1, c_isTerm C W.1, c_isFarm C W.1, c_isSeason, c_isPlace, r_isGauge H W.1, r_isTerm H W.1, r_isFarm H W.1, r_isSeason, r_isWeek, r_isPlace, r_isSheet, ci1, ri1, ci2, ri2, ci3, ri3, ci4, ri4, ci5, ri5, ci11, ri11, ci16, ri16, ci98, ri98, ci99, ri99, ci198, ri198, ci9999, ri9999, oa, ob], S, I.up (by omega)⟩
  rcases okC c (n := 12) (by decide) with oc | ⟨oc, w, hw, rfl⟩
  · exact ⟨-1, h, h, σ, tr, u, by simp only [f_X11_green, f_X11_isDistrictWeek, obs, b10, b01, bm, if_true_, if_false_, eq_self, not_true_eq_false, not_false_eq_true, true_or, or_true, or_false, false_or, and_true, true_and, and_false, false_and, or_self, and_self, Bool.false_eq_true, ite_self, n25, n20, n24, n100, kk1 C, RS.kk H, c_isGauge C W.1, c_isTerm C W.1, c_isFarm C W.1, c_isSeason, c_isPlace, r_isGauge H W.1, r_isTerm H W.1, r_isFarm H W.1, r_isSeason, r_isWeek, r_isPlace, r_isSheet, ci1, ri1, ci2, ri2, ci3, ri3, ci4, ri4, ci5, ri5, ci11, ri11, ci16, ri16, ci98, ri98, ci99, ri99, ci198, ri198, ci9999, ri9999, oa, ob, oc], by simp only [f_X12_green, obs, b10, b01, bm, if_true_, if_false_, eq_self, not_true_eq_false, not_false_eq_true, true_or, or_true, or_false, false_or, and_true, true_and, and_false, false_and, or_self, and_self, Bool.false_eq_true, ite_self, n25, n20, n24, n100, kk1 C, RS.kk H, c_isGauge C W.1, c_isTerm C W.1, c_isFarm C W.1, c_isSeason, c_isPlace, r_isGauge H W.1, r_isTerm H W.1, r_isFarm H W.1, r_isSeason, r_isWeek, r_isPlace, r_isSheet, ci1, ri1, ci2, ri2, ci3, ri3, ci4, ri4, ci5, ri5, ci11, ri11, ci16, ri16, ci98, ri98, ci99, ri99, ci198, ri198, ci9999, ri9999, oa, ob, oc], S, I.up (by omega)⟩
  rcases in_m1 (h := h) (v := d) (m := 101) (hi := 100) (by decide) (by decide) with ⟨q1, q2⟩ | ⟨q1, q2, q3⟩
  · exact ⟨-2, h, h, σ, tr, u, by simp only [f_X11_green, f_X11_isDistrictWeek, obs, b10, b01, bm, if_true_, if_false_, eq_self, not_true_eq_false, not_false_eq_true, true_or, or_true, or_false, false_or, and_true, true_and, and_false, false_and, or_self, and_self, Bool.false_eq_true, ite_self, n25, n20, n24, n100, kk1 C, RS.kk H, c_isGauge C W.1, c_isTerm C W.1, c_isFarm C W.1, c_isSeason, c_isPlace, r_isGauge H W.1, r_isTerm H W.1, r_isFarm H W.1, r_isSeason, r_isWeek, r_isPlace, r_isSheet, ci1, ri1, ci2, ri2, ci3, ri3, ci4, ri4, ci5, ri5, ci11, ri11, ci16, ri16, ci98, ri98, ci99, ri99, ci198, ri198, ci9999, ri9999, oa, ob, oc, q2], by simp only [f_X12_green, obs, b10, b01, bm, if_true_, if_false_, eq_self, not_true_eq_false, not_false_eq_true, true_or, or_true, or_false, false_or, and_true, true_and, and_false, false_and, or_self, and_self, Bool.false_eq_true, ite_self, n25, n20, n24, n100, kk1 C, RS.kk H, c_isGauge C W.1, c_isTerm C W.1, c_isFarm C W.1, c_isSeason, c_isPlace, r_isGauge H W.1, r_isTerm H W.1, r_isFarm H W.1, r_isSeason, r_isWeek, r_isPlace, r_isSheet, ci1, ri1, ci2, ri2, ci3, ri3, ci4, ri4, ci5, ri5, ci11, ri11, ci16, ri16, ci98, ri98, ci99, ri99, ci198, ri198, ci9999, ri9999, oa, ob, oc, q1], S, I.up (by omega)⟩
  have rm := c_room C W.1 (k := 1) (by omega)
  rw [il1] at rm
  by_cases qf : cn σ 7 = 700
  · have rm0 : f_X9_haveRoomFor h 14 1 = some 0 := by rw [rm, if_neg (by omega)]
    have e7 : σ.1 7 = 700 := by rw [hTl.1, qf]; exact lt700.symm
    exact ⟨-4, h, h, σ, tr, u, by simp only [f_X11_green, f_X11_isDistrictWeek, obs, b10, b01, bm, if_true_, if_false_, eq_self, not_true_eq_false, not_false_eq_true, true_or, or_true, or_false, false_or, and_true, true_and, and_false, false_and, or_self, and_self, Bool.false_eq_true, ite_self, n25, n20, n24, n100, kk1 C, RS.kk H, c_isGauge C W.1, c_isTerm C W.1, c_isFarm C W.1, c_isSeason, c_isPlace, r_isGauge H W.1, r_isTerm H W.1, r_isFarm H W.1, r_isSeason, r_isWeek, r_isPlace, r_isSheet, ci1, ri1, ci2, ri2, ci3, ri3, ci4, ri4, ci5, ri5, ci11, ri11, ci16, ri16, ci98, ri98, ci99, ri99, ci198, ri198, ci9999, ri9999, oa, ob, oc, q2, kr1_4 C, rm0], by simp only [f_X12_green, obs, b10, b01, bm, if_true_, if_false_, eq_self, not_true_eq_false, not_false_eq_true, true_or, or_true, or_false, false_or, and_true, true_and, and_false, false_and, or_self, and_self, Bool.false_eq_true, ite_self, n25, n20, n24, n100, kk1 C, RS.kk H, c_isGauge C W.1, c_isTerm C W.1, c_isFarm C W.1, c_isSeason, c_isPlace, r_isGauge H W.1, r_isTerm H W.1, r_isFarm H W.1, r_isSeason, r_isWeek, r_isPlace, r_isSheet, ci1, ri1, ci2, ri2, ci3, ri3, ci4, ri4, ci5, ri5, ci11, ri11, ci16, ri16, ci98, ri98, ci99, ri99, ci198, ri198, ci9999, ri9999, oa, ob, oc, q1, RS.gi H, e7], S, I.up (by omega)⟩
  have hT : cn σ 7 < 700 := by omega
  have rm1 : f_X9_haveRoomFor h 14 1 = some 1 := by rw [rm, if_pos (by omega)]
  have hsp : sp g s w < 768 := by have := sp_lt (n := 4) hg hs hw; omega
  have hsp' : sp g s w < if true = true then 768 else 1536 := by simpa using hsp
  have ct0 : telC true (sp g s w) = sp (8 + g) s w := by rw [sp8]; simp [telC]
  have C1 := tel_cs (v := d) C W hT hsp'
  rw [ct0] at C1
  have e8 : (8 : Int32) + nI g = nI (8 + g) := by rw [lt8, nI_add]
  have t1 := c_tell C W.1 (r := 8 + g) (v := d) (by omega) hs hw hT
  have H1 : RS (telH h σ (sp (8 + g) s w) d) σ := tel_rs H
  have S1 := tel_9 (σ := σ) (c := sp (8 + g) s w) (v := d) S
  obtain ⟨h2, t2, F2, H2⟩ := r_tells (v := d) H1 W.1 hT hsp'
  have q1' : f_X12_in (telH h σ (sp (8 + g) s w) d) d (-1) 100 = some 1 := q1
  have hne : ¬ σ.1 7 = 700 := by rw [hTl.1, lt700, nI_eq (by omega) (by decide)]; exact qf
  have e2 : xgi h2 100 13 7 = some (nI (cn σ 7 + 1)) := by rw [RS.gi H2]; exact congrArg some (show (s1 σ 7 (nI (cn σ 7 + 1))).1 7 = nI (cn σ 7 + 1) from s1_eq)
  have t2' : f_X12_tells (telH h σ (sp (8 + g) s w) d) 100 1 (nI (sp g s w)) d = some h2 := t2
  refine ⟨nI (cn σ 7 + 1), telH h σ (sp (8 + g) s w) d, h2, telS σ true (sp g s w) d, tr, u, ?_, ?_, S1, I.st C1 F2 H2 (tel_wv W hT hsp' (bd_mono q3 (by omega))) (tel_wx (X.up (by omega))) S1 (by omega)⟩
  · simp only [f_X11_green, f_X11_isDistrictWeek, obs, b10, b01, bm, if_true_, if_false_, eq_self, not_true_eq_false, not_false_eq_true, true_or, or_true, or_false, false_or, and_true, true_and, and_false, false_and, or_self, and_self, Bool.false_eq_true, ite_self, n25, n20, n24, n100, kk1 C, RS.kk H, c_isGauge C W.1, c_isTerm C W.1, c_isFarm C W.1, c_isSeason, c_isPlace, r_isGauge H W.1, r_isTerm H W.1, r_isFarm H W.1, r_isSeason, r_isWeek, r_isPlace, r_isSheet, ci1, ri1, ci2, ri2, ci3, ri3, ci4, ri4, ci5, ri5, ci11, ri11, ci16, ri16, ci98, ri98, ci99, ri99, ci198, ri198, ci9999, ri9999, oa, ob, oc, q2, kr1_4 C, rm1, e8, t1]
  · simp only [f_X12_green, obs, b10, b01, bm, if_true_, if_false_, eq_self, not_true_eq_false, not_false_eq_true, true_or, or_true, or_false, false_or, and_true, true_and, and_false, false_and, or_self, and_self, Bool.false_eq_true, ite_self, n25, n20, n24, n100, RS.kk H1, ri3, r_isSeason, r_isWeek, oa, ob, oc, q1', RS.gi H1, hne, r_spotOf, t2', e2]
end
