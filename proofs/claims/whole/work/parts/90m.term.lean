/-! ===== public: term ===== -/
section
variable {L N : Nat} {xs : Nat → Int32} {h h' h0 h1 h2 : AH} {σ σ' y : SG} {tr tr' : Nat → Nat} {u u' n b t c : Nat}
theorem vAt_g (g7 : σ'.1 7 = σ.1 7) (g8 : σ'.2 8 = σ.2 8) (g9 : σ'.2 9 = σ.2 9) (g10 : σ'.2 10 = σ.2 10) (k c : Nat) : vAt σ' k c = vAt σ k c := by
  induction k with
  | zero => rfl
  | succ k ih =>
    have hcix : cix σ' k = cix σ k := by unfold cix; rw [g8, g9]
    unfold vAt
    rw [hcix, g10, ih]
theorem WV.term (W : WV σ) (ht : cn σ 13 = t) (ht8 : t < 8) (P : YPB t σ y) (g1 : ∀ k, k ≠ 13 → k ≠ 63 → k ≠ 69 → k ≠ 70 → σ'.1 k = σ.1 k) (g63 : σ'.1 63 = 0) (g2 : σ'.2 = y.2) (g13 : σ'.1 13 = σ.1 13 ∨ (σ'.1 13 = nI (t + 1) ∧ TW σ' t)) : WV σ' := by
  obtain ⟨w1, w2, w3, ⟨w4, w5, w6⟩, ⟨w7, w8, w9⟩, w10⟩ := W
  have gr : ∀ k, k < 14 ∨ 24 < k → σ'.2 k = σ.2 k := fun k hk => by
    rw [g2]; funext j; exact P.2 k j (by omega) (by omega)
  have cN : ∀ k, k ≠ 13 → k ≠ 63 → k ≠ 69 → k ≠ 70 → cn σ' k = cn σ k := fun k a b c d => by unfold cn; rw [g1 k a b c d]
  have c13 : cn σ' 13 = t ∨ (cn σ' 13 = t + 1 ∧ TW σ' t) := by
    rcases g13 with z | ⟨z, z2⟩
    · left; unfold cn; rw [z]; exact ht
    · right; exact ⟨by unfold cn; rw [z, nI_clamp (by omega)], z2⟩
  have ct13 : cn σ 13 ≤ cn σ' 13 := by rcases c13 with z | z <;> omega
  have tc : ∀ q ∈ cmax, q = (13, 8) ∨ q = (63, 100) ∨ (q.1 ≠ 13 ∧ q.1 ≠ 63 ∧ q.1 ≠ 69 ∧ q.1 ≠ 70) := by decide
  have tR : ∀ q ∈ wR, (q.1 < 14 ∨ 24 < q.1) ∧ (q.2.1 ≠ 13 ∧ q.2.1 ≠ 63 ∧ q.2.1 ≠ 69 ∧ q.2.1 ≠ 70) ∧ (q.2.2 ≠ 63 ∧ q.2.2 ≠ 69 ∧ q.2.2 ≠ 70) := by decide
  have cT : ∀ k, k ≠ 13 → k ≠ 63 → k ≠ 69 → k ≠ 70 → ct σ' k = ct σ k := fun k a b c d => by unfold ct; rw [cN k a b c d]
  have c7 := cN 7 (by decide) (by decide) (by decide) (by decide)
  have g7 := g1 7 (by decide) (by decide) (by decide) (by decide)
  have hv := vAt_g (σ := σ) (σ' := σ') g7 (gr 8 (by omega)) (gr 9 (by omega)) (gr 10 (by omega))
  have hcix : ∀ i, cix σ' i = cix σ i := fun i => by unfold cix; rw [gr 8 (by omega), gr 9 (by omega)]
  refine ⟨fun q hq => ?_, fun q hq j hj => ?_, ?_, ⟨fun i hi => ?_, fun c hc => ?_, fun c hc => ?_⟩, ⟨?_, ?_, ?_⟩, fun i hi => ?_⟩
  · rcases tc q hq with z | z | ⟨z1, z2, z3, z4⟩
    · subst z
      show σ'.1 13 = nI (cn σ' 13) ∧ cn σ' 13 ≤ 8
      rcases g13 with z | ⟨z, z2⟩
      · have e : cn σ' 13 = cn σ 13 := by unfold cn; rw [z]
        rw [z, e]; exact w1 (13, 8) hq
      · have e : cn σ' 13 = t + 1 := by unfold cn; rw [z, nI_clamp (by omega)]
        rw [z, e]; exact ⟨rfl, by omega⟩
    · subst z
      show σ'.1 63 = nI (cn σ' 63) ∧ cn σ' 63 ≤ 100
      have e : cn σ' 63 = 0 := by unfold cn; rw [g63]; decide
      rw [g63, e]; exact ⟨by decide, by omega⟩
    · rw [g1 _ z1 z2 z3 z4, cN _ z1 z2 z3 z4]; exact w1 q hq
  · obtain ⟨a1, ⟨a2, a3, a4, a5⟩, ⟨a6, a7, a8⟩⟩ := tR q hq
    rw [cT _ a2 a3 a4 a5] at hj
    rw [gr _ a1]
    have := w2 q hq j hj
    by_cases z : q.2.2 = 13
    · rw [z] at this ⊢
      exact bd_mono this ct13
    · rw [cT _ z a6 a7 a8]; exact this
  · unfold WL; rw [gr 5 (by omega)]; exact w3
  · rw [c7] at hi
    rw [hcix, gr 8 (by omega), gr 9 (by omega), gr 10 (by omega)]; exact w4 i hi
  · rw [c7, hv, gr 11 (by omega)]; exact w5 c hc
  · rw [c7, hv, gr 12 (by omega)]; exact w6 c hc
  · rw [gr 25 (by omega)]; exact w7
  · rw [gr 6 (by omega)]; exact w8
  · rw [g1 73 (by decide) (by decide) (by decide) (by decide)]; exact w9
  · by_cases z : i = t
    · rcases c13 with z2 | z2
      · omega
      · rw [z]; exact z2.2
    · have hi' : i < t := by rcases c13 with z2 | z2 <;> omega
      have e := w10 i (by omega)
      have gi : ∀ k, 14 ≤ k → k ≤ 19 → σ'.2 k i = σ.2 k i := fun k a b => by rw [g2]; exact P.2 k i (by omega) (by omega)
      have gc : ∀ k j, 20 ≤ k → k ≤ 24 → j < 4 → σ'.2 k (4 * i + j) = σ.2 k (4 * i + j) := fun k j a b c => by rw [g2]; exact P.2 k _ (by omega) (by omega)
      have ecs : cs σ' i = cs σ i := by unfold cs; rw [gi 19 (by omega) (by omega)]
      obtain ⟨⟨e1, e2, e3⟩, e4, e5, e6, e7, e8⟩ := e
      have ecw : ∀ j, j < 4 → (CW σ (4 * i + j) → CW σ' (4 * i + j)) ∧ (CK σ (4 * i + j) → CK σ' (4 * i + j)) := by
        intro j hj
        have a1 : cA σ' (4 * i + j) = cA σ (4 * i + j) := by unfold cA; rw [gc 21 j (by omega) (by omega) hj]
        have a2 : cB σ' (4 * i + j) = cB σ (4 * i + j) := by unfold cB; rw [gc 22 j (by omega) (by omega) hj]
        constructor
        · intro z; unfold CW at z ⊢; rw [a1, a2, gc 21 j (by omega) (by omega) hj, gc 22 j (by omega) (by omega) hj]; exact z
        · intro z; unfold CK at z ⊢; rw [a1, a2, gc 20 j (by omega) (by omega) hj, gc 24 j (by omega) (by omega) hj]; exact z
      refine ⟨⟨by rw [gi 19 (by omega) (by omega), ecs]; exact e1, by rw [ecs]; exact e2, by rw [ecs]; exact e3⟩, fun j hj => ?_, ?_, ?_, ?_, ?_⟩
      · rw [ecs] at hj
        exact (ecw j (by omega)).1 (e4 j hj)
      · rcases e5 with ⟨z1, z2⟩ | ⟨z1, z2⟩
        · refine Or.inl ⟨by rw [gi 14 (by omega) (by omega)]; exact z1, fun j hj => ?_⟩
          rw [ecs] at hj
          exact (ecw j (by omega)).2 (z2 j hj)
        · exact Or.inr ⟨by rw [gi 14 (by omega) (by omega)]; exact z1, by rw [gi 16 (by omega) (by omega)]; exact z2⟩
      · rw [gi 15 (by omega) (by omega)]; exact e6
      · rw [gi 17 (by omega) (by omega)]; exact e7
      · rw [gi 18 (by omega) (by omega)]; exact e8
theorem WX.term (X : WX σ n) (P : YPB t σ y) (g1 : ∀ k, k ≠ 13 → k ≠ 63 → k ≠ 69 → k ≠ 70 → σ'.1 k = σ.1 k) (g2 : σ'.2 = y.2) (b17 : bd (y.2 17 t) 10000 ∧ bd (y.2 18 t) 10000) : WX σ' n := by
  have gr : ∀ k, k < 14 ∨ 24 < k → σ'.2 k = σ.2 k := fun k hk => by
    rw [g2]; funext j; exact P.2 k j (by omega) (by omega)
  have c26 : cn σ' 26 = cn σ 26 := by unfold cn; rw [g1 26 (by decide) (by decide) (by decide) (by decide)]
  have c55 : cn σ' 55 = cn σ 55 := by unfold cn; rw [g1 55 (by decide) (by decide) (by decide) (by decide)]
  obtain ⟨y1, y2, y3, y4, y5, y6, y7, y8, y9⟩ := X
  unfold WX WZ
  rw [c26, c55, g1 54 (by decide) (by decide) (by decide) (by decide), g1 64 (by decide) (by decide) (by decide) (by decide), gr 31 (by omega), gr 32 (by omega), gr 33 (by omega), gr 34 (by omega), gr 60 (by omega), gr 62 (by omega), gr 66 (by omega), gr 67 (by omega), gr 71 (by omega)]
  refine ⟨y1, y2, y3, y4, y5, y6, y7, y8, fun i hi => ?_⟩
  rw [g2]
  by_cases z : i = t
  · rw [z]; exact b17
  · rw [P.2 17 i (by omega) (by omega), P.2 18 i (by omega) (by omega)]; exact y9 i hi
theorem finS_g {p : Nat} {f : Bool} (P : YPB t σ y) : (∀ k, k ≠ 13 → k ≠ 63 → k ≠ 69 → k ≠ 70 → (finS y p f).1 k = σ.1 k) ∧ (finS y p f).1 63 = 0 ∧ (finS y p f).2 = y.2 ∧ (finS y p f).1 13 = σ.1 13 := by
  refine ⟨fun k h1 h2 h3 h4 => ?_, rfl, rfl, ?_⟩
  · unfold finS; rw [s1_ne h2, tS_k h3 h4]; exact P.1 k
  · unfold finS; rw [s1_ne (by decide), tS_k (by decide) (by decide)]; exact P.1 13
theorem pub_term (I : INV L xs h σ tr u n) (hN : 2000 < N) (hn : n ≤ 590) : ∃ v h1 h2 σ' tr' u', f_X11_term h N 1 = some (v, h1) ∧ f_X12_term h1 N 100 = some (v, h2) ∧ (kd h1 9000 = 30 ∧ ln h1 9000 = L ∧ ai h1 9000 = xs) ∧ INV L xs h2 σ' tr' u' (n + 1) := by
  obtain ⟨C, H, W, X, S, U⟩ := id I
  have hT := W.1.t
  have hA := W.1.a
  have l8 : (8 : Int32) = nI 8 := by decide
  by_cases q8 : cn σ 13 = 8
  · refine ⟨-4, h, h, σ, tr, u, ?_, ?_, S, I.up (by omega)⟩
    · have lt : ¬ nI (cn σ 13) < 8 := by rw [l8, nI_ltI (by omega) (by omega)]; omega
      unfold f_X11_term
      rw [if_pos (kk1 C), kr1_1 C, obs, kz11 C, obs, hT.1, if_neg lt]
    · unfold f_X12_term
      rw [if_pos H.1, RS.gi H, hT.1, obs, if_pos (by rw [q8]; decide)]
  obtain ⟨t, et⟩ : ∃ t, t = cn σ 13 := ⟨_, rfl⟩
  have ht : t < 8 := by omega
  have TXs : TX σ := ⟨hA.1, hA.2, X.2.2.1, X.2.2.2.2.2.2.1⟩
  have hu : u < 600 := by omega
  obtain ⟨h1, r1, F1, K1, f2, B1⟩ := c_read (N := N) C W.1 TXs hu (by omega)
  obtain ⟨b, eb⟩ : ∃ b, b = 1000 + 8 * u := ⟨_, rfl⟩
  rw [← eb] at r1 F1 K1 B1
  have hb : 1000 ≤ b ∧ b + 5 < 9000 := by omega
  have k15 : kd h1 15 = 9 + 1 := by rw [F1.2.1.1]; exact kk15 C
  have p1 : xpi h1 15 9 1 0 = some (sfi h1 15 1 0) := xpi_ok k15
  have Q14 : ∀ r, r ≠ 15 → (r < b ∨ b + 5 < r) → EQR h (sfi h1 15 1 0) r := fun r a c => (F1.1 r a c).trans (EQR.sfi a)
  have QB : ∀ r, r ≠ 15 → EQR h1 (sfi h1 15 1 0) r := fun r a => EQR.sfi a
  have z15 : fi (sfi h1 15 1 0) 15 1 = 0 := by rw [fi_sfi, if_pos ⟨rfl, rfl⟩]
  have e15 : (kd (sfi h1 15 1 0) 15 = kd h 15 ∧ ln (sfi h1 15 1 0) 15 = ln h 15 ∧ fr (sfi h1 15 1 0) 15 = fr h 15) := ⟨F1.2.1.1, F1.2.1.2.1, F1.2.1.2.2.1⟩
  have i15 : ∀ k, k ≠ 1 → k ≠ 2 → k ≠ 3 → fi (sfi h1 15 1 0) 15 k = fi h 15 k := fun k a c d => by rw [fi_sfi, if_neg (by omega)]; exact F1.2.2 k c d
  have K14 : BK (sfi h1 15 1 0) b := K1
  have B14 : accA σ = true → BV (sfi h1 15 1 0) b σ := fun z => by
    have B := B1 z
    have e : fi (sfi h1 15 1 0) b = fi h1 b := (QB b (by omega)).2.2.1
    unfold BV at B ⊢
    rw [e]; exact B
  have r5 : xgr h1 1 12 5 = some 15 := by
    have q := F1.1 1 (by omega) (by omega)
    rw [xgr_ok (by rw [q.1]; exact kk1 C), q.2.2.2.1]; exact C.1.1 (1, 5, 15) (by decide)
  have g2 : xgi h1 15 9 2 = some (nI (posA σ)) := by rw [xgi_ok k15, f2]
  have pre : f_X11_term h N 1 = (if accA σ = true then (f_X10_isSound (sfi h1 15 1 0) N b).bind fun v15 => (if v15 = 0 then some ((-2), sfi h1 15 1 0) else (xgr (sfi h1 15 1 0) 1 12 1).bind fun v17 => (gl (sfi h1 15 1 0) [b, 1]).bind fun _ => (f_Jx4a65c_add_9ea2d (sfi h1 15 1 0) v17 b).bind fun q18 => (xgr q18.2 1 12 1).bind fun v19 => (f_Jx4a65c_size_8abf5 q18.2 v19).bind fun v20 => some ((v20 - 1), q18.2)) else some (-10 - nI (posA σ), sfi h1 15 1 0)) := by
    have lt : nI (cn σ 13) < 8 := by rw [l8, nI_ltI (by omega) (by omega)]; omega
    unfold f_X11_term
    rw [if_pos (kk1 C), kr1_1 C, obs, kz11 C, obs, hT.1, if_pos lt, kr1_5 C, obs, gl1 (by rw [kk1 C]; decide), obs, r1, obs]
    rcases accA σ
    · rw [if_neg (by decide), if_neg (by decide)]
      show ((xgr h1 1 12 5).bind _) = _
      rw [r5, obs, g2, obs, obs, p1, obs]
    · rw [if_pos rfl, if_pos rfl]
      show ((xgr h1 1 12 5).bind _) = _
      rw [r5, obs, g2, obs, obs, p1, obs]
  generalize sfi h1 15 1 0 = hE at p1 Q14 QB z15 e15 i15 K14 B14 pre
  have H14 : RS hE σ := H.eq (fun r a c => Q14 r (by omega) (by omega))
  have S14 : kd hE 9000 = 30 ∧ ln hE 9000 = L ∧ ai hE 9000 = xs := by
    have q := Q14 9000 (by omega) (by omega)
    rw [q.1, q.2.1, q.2.2.2.2.1]; exact S
  have b17 := X.2.2.2.2.2.2.2.2 t ht
  have T0 := C.2.2.2.2.2.2.2.2.1
  have q11 := Q14 11 (by omega) (by omega)
  have refu : ∀ y f h2, f_X11_term h N 1 = some (resV σ t, hE) → f_X12_term hE N 100 = some (resV σ t, h2) → FRc hE h2 → YPB t σ y → (bd (y.2 17 t) 10000 ∧ bd (y.2 18 t) 10000) → RS h2 (finS y (posA σ) f) → ∃ v h1 h2 σ' tr' u', f_X11_term h N 1 = some (v, h1) ∧ f_X12_term h1 N 100 = some (v, h2) ∧ (kd h1 9000 = 30 ∧ ln h1 9000 = L ∧ ai h1 9000 = xs) ∧ INV L xs h2 σ' tr' u' (n + 1) := by
    intro y f h2 x1 x2 F2 P2 B2 H2
    obtain ⟨g1, g63, gy, g13⟩ := finS_g (p := posA σ) (f := f) P2
    have c13 : cn (finS y (posA σ) f) 13 = cn σ 13 := by unfold cn; rw [g13]
    obtain ⟨m1, m2⟩ := T0.slot (h' := hE) (σ' := finS y (posA σ) f) W hu et.symm (fun r a c d => Q14 r (by omega) (by omega)) (by rw [← eb]; exact K14.1.1) (Or.inr (by rw [gy]; exact P2.2))
    have C2 : CS hE (finS y (posA σ) f) tr (u + 1) := by
      refine C.term W.1 hb ⟨fun r a _ _ d => Q14 r a d, e15, i15⟩ (by rw [q11.1]; exact kk11 C) ⟨g1, fun k hk => ?_⟩ ?_ ?_ ⟨?_, fun i hi => ?_, m2⟩
      · rw [gy]; funext j; exact P2.2 k j (by omega) (by omega)
      · rw [q11.2.2.1, g13]; exact C.d.1 (11, 2, 13) (by decide)
      · rw [z15, g63]
      · rw [c13]; exact T0.1.eq q11 (fun i hi => Q14 _ (by omega) (by omega))
      · rw [c13, ← et] at hi
        exact ⟨by have := (m1 i hi).1; omega, (m1 i hi).2⟩
    exact ⟨resV σ t, hE, h2, finS y (posA σ) f, tr, u + 1, x1, x2, S14, I.st C2 F2 H2 (W.term et.symm ht P2 g1 g63 gy (Or.inl g13)) ((X.up (by omega)).term P2 g1 gy B2) S14 (by omega)⟩
  obtain ⟨h2, y, f, x2, F2, P2, B2, V2, H2⟩ := r_term (N := N) H14 TXs (by rw [et]; exact hT.1) ht (by omega) b17
  rcases ea : accA σ
  · rw [ea, if_neg (fun z => (by cases z.1))] at H2
    refine refu y f h2 ?_ x2 F2 P2 B2 H2
    rw [pre, ea, if_neg (by decide)]
    unfold resV
    rw [ea, if_neg (by decide)]
  · have V := V2 ea
    have B := B14 ea
    have snd : f_X10_isSound hE N b = some (bI (sndA σ)) := by
      have hk := kA_le ea
      have hA' : ∀ i, i < kA σ → ai hE (b + 2) i = Af σ i ∧ ai hE (b + 3) i = Bf σ i := by
        intro i hi
        have t1 := TM1.new K14 B V ea
        have ecs : cs y t = kA σ := by unfold cs; rw [V.k, nI_clamp (by omega)]
        have := t1.2.2.2.1 i (by rw [ecs]; exact hi)
        rw [(V.A hi).1, (V.A hi).2] at this
        exact this
      have h5 : fi hE b 5 = nI (kA σ) := by
        have t1 := TM1.new K14 B V ea
        rw [t1.2.2.1.2.2, V.k]
      have := c_sound (N := N) (A := Af σ) (B := Bf σ) (k := kA σ) K14 hk.2 h5 (fun i hi => (hA' i hi).1) (fun i hi => (hA' i hi).2) rfl rfl (kA σ) 0 N (by omega) (by omega)
      have this' : f_X10_isSound_b2 hE N N b 0 = _ := this
      unfold f_X10_isSound
      rw [if_pos K14.1.1, this', B.1]
      unfold sndA
      rcases e : isRateT σ
      · rcases o : okS (Af σ) (Bf σ) (kA σ) 0 <;> simp [bI]
      · rw [(B.2.1 e).2.1]
        by_cases q : (rn2 σ (0, false)).1 ≤ 0
        · rcases o : okS (Af σ) (Bf σ) (kA σ) 0 <;> simp [bI, q]
        · rcases o : okS (Af σ) (Bf σ) (kA σ) 0 <;> simp [bI, q]
    rcases es : sndA σ
    · rw [ea, es, if_neg (fun z => (by cases z.2))] at H2
      refine refu y f h2 ?_ x2 F2 P2 B2 H2
      rw [pre, ea, if_pos rfl, snd, obs, es, if_pos (show bI false = 0 by rfl)]
      unfold resV
      rw [ea, if_pos rfl, es, if_neg (by decide)]
    · clear x2 F2 P2 B2 H2 V2 V
      obtain ⟨tr', etr⟩ : ∃ tr', tr' = va_up tr t u := ⟨_, rfl⟩
      have tr_n : ∀ i, i < t → tr' i = tr i := fun i hi => by rw [etr]; exact if_neg (by omega)
      have tr_t : tr' t = u := by rw [etr]; exact if_pos rfl
      have T0r := T0.2.1
      have kE1 : kd hE 1 = 13 := by rw [(Q14 1 (by omega) (by omega)).1]; exact kk1 C
      have kE11 : kd hE 11 = 1 := by rw [q11.1]; exact kk11 C
      have Z : LZ hE 11 t (fun i => 1000 + 8 * tr' i) := by
        rw [et]
        refine LZ.cg (T0.1.eq q11 (fun i hi => Q14 _ (by omega) (by omega))) (fun j hj => ?_)
        show 1000 + 8 * tr' j = 1000 + 8 * tr j
        rw [tr_n j (by omega)]
      have z11 : fi hE 11 2 = nI t := by
        rw [q11.2.2.1, et, ← hT.1]; exact C.d.1 (11, 2, 13) (by decide)
      have s4 := C.2.1.2.2.2.1
      have s5 := C.2.1.2.2.2.2
      obtain ⟨h18, a1, Z18, f18, k18, Q18⟩ := Z.add (v := b) (by omega) kE11 z11 (by omega) (by rw [K14.1.1]; omega) (show 1000 + 8 * tr' t = b by rw [tr_t, eb]) (fun j hj => by
        have hj' := T0r j (by omega)
        show 1 ≤ kd hE (1000 + 8 * tr' j) ∧ kd hE (1000 + 8 * tr' j) ≤ 14
        rw [tr_n j hj, (Q14 (1000 + 8 * tr j) (by omega) (by omega)).1, hj'.2.1.1]; omega) (by
        have q := Q14 9200 (by omega) (by omega)
        rw [q.1, q.2.1]; exact s4) (by rw [(Q14 9300 (by omega) (by omega)).1]; exact s5) (fun j hj => by
        show 1000 + 8 * tr' j < _ ∨ _
        omega)
      have q18 : ∀ r, r ≠ 11 → (r < 488 ∨ 496 ≤ r) → EQR hE h18 r := fun r a c => Q18 r a (by omega)
      have H18 : RS h18 σ := H14.eq (fun r a c => q18 r (by omega) (by omega))
      have S18 : kd h18 9000 = 30 ∧ ln h18 9000 = L ∧ ai h18 9000 = xs := by
        have q := q18 9000 (by omega) (by omega)
        rw [q.1, q.2.1, q.2.2.2.2.1]; exact S14
      obtain ⟨h2, y, f, x2, F2, P2, B2, V2, H2⟩ := r_term (N := N) H18 TXs (by rw [et]; exact hT.1) ht (by omega) b17
      have V := V2 ea
      rw [ea, es, if_pos ⟨rfl, rfl⟩] at H2
      obtain ⟨g1, g63, gy, g13⟩ := finS_g (p := posA σ) (f := f) P2
      have G1 : ∀ k, k ≠ 13 → k ≠ 63 → k ≠ 69 → k ≠ 70 → (s1 (finS y (posA σ) f) 13 (nI (t + 1))).1 k = σ.1 k := fun k a c d e => by rw [s1_ne a]; exact g1 k a c d e
      have G63 : (s1 (finS y (posA σ) f) 13 (nI (t + 1))).1 63 = 0 := by rw [s1_ne (by decide)]; exact g63
      have G13 : (s1 (finS y (posA σ) f) 13 (nI (t + 1))).1 13 = nI (t + 1) := s1_eq
      have GY : (s1 (finS y (posA σ) f) 13 (nI (t + 1))).2 = y.2 := gy
      have V18 : RV (s1 (finS y (posA σ) f) 13 (nI (t + 1))) σ t := by
        unfold RV colR at V ⊢
        rw [GY]; exact V
      have B18 : bd ((s1 (finS y (posA σ) f) 13 (nI (t + 1))).2 17 t) 10000 ∧ bd ((s1 (finS y (posA σ) f) 13 (nI (t + 1))).2 18 t) 10000 := by rw [GY]; exact B2
      generalize s1 (finS y (posA σ) f) 13 (nI (t + 1)) = σ2 at G1 G63 G13 GY V18 B18 H2
      have c13 : cn σ2 13 = t + 1 := by unfold cn; rw [G13, nI_clamp (by omega)]
      obtain ⟨m1, m2⟩ := T0.slot (h' := h18) (σ' := σ2) W hu et.symm (fun r a c d => (Q14 r (by omega) (by omega)).trans (q18 r (by omega) (by omega))) (by rw [← eb, (q18 b (by omega) (by omega)).1]; exact K14.1.1) (Or.inr (by rw [GY]; exact P2.2))
      have K18 : BK h18 b := by
        obtain ⟨⟨c0, c1, c2, c3, c4, c5⟩, d1, d2⟩ := K14
        refine ⟨⟨by rw [(q18 b (by omega) (by omega)).1]; exact c0, by rw [(q18 (b + 1) (by omega) (by omega)).1]; exact c1, by rw [(q18 (b + 2) (by omega) (by omega)).1]; exact c2, by rw [(q18 (b + 3) (by omega) (by omega)).1]; exact c3, by rw [(q18 (b + 4) (by omega) (by omega)).1]; exact c4, by rw [(q18 (b + 5) (by omega) (by omega)).1]; exact c5⟩, fun d hd => ⟨?_, ?_⟩, d2⟩
        · rw [(q18 (b + 1 + d) (by omega) (by omega)).2.1]; exact (d1 d hd).1
        · rw [(q18 b (by omega) (by omega)).2.2.2.1]; exact (d1 d hd).2
      have BV18 : BV h18 b σ := by
        unfold BV col at B ⊢
        rw [(q18 b (by omega) (by omega)).2.2.1, (q18 (b + 1) (by omega) (by omega)).2.2.2.2.1, (q18 (b + 2) (by omega) (by omega)).2.2.2.2.1, (q18 (b + 3) (by omega) (by omega)).2.2.2.2.1, (q18 (b + 4) (by omega) (by omega)).2.2.2.2.1, (q18 (b + 5) (by omega) (by omega)).2.2.2.2.1]
        exact B
      have q15 := q18 15 (by omega) (by omega)
      have C2 : CS h18 σ2 tr' (u + 1) := by
        refine C.term W.1 hb ⟨fun r a c d e => (Q14 r a e).trans (q18 r c d), ⟨by rw [q15.1]; exact e15.1, by rw [q15.2.1]; exact e15.2.1, by rw [q15.2.2.2.1]; exact e15.2.2⟩, fun k a c d => by rw [q15.2.2.1]; exact i15 k a c d⟩ k18 ⟨G1, fun k hk => ?_⟩ (by rw [f18, G13]) (by rw [q15.2.2.1, z15, G63]) ⟨?_, fun i hi => ?_, m2⟩
        · rw [GY]; funext j; exact P2.2 k j (by omega) (by omega)
        · rw [c13]; exact Z18
        · rw [c13] at hi
          by_cases z : i = t
          · rw [z, tr_t, ← eb]
            exact ⟨by omega, TM1.new K18 BV18 V18 ea⟩
          · rw [tr_n i (by omega)]
            have := m1 i (by omega)
            exact ⟨by omega, this.2⟩
      refine ⟨resV σ t, h18, h2, σ2, tr', u + 1, ?_, x2, S18, I.st C2 F2 H2 (W.term et.symm ht P2 G1 G63 GY (Or.inr ⟨G13, TW.new V18 ea es B18⟩)) ((X.up (by omega)).term P2 G1 GY B2) S18 (by omega)⟩
      have r17 : xgr hE 1 12 1 = some 11 := by
        have q := Q14 1 (by omega) (by omega)
        rw [xgr_ok kE1, q.2.2.2.1]; exact C.1.1 (1, 1, 11) (by decide)
      have r19 : xgr h18 1 12 1 = some 11 := kr1_1 C2
      have z20 : f_Jx4a65c_size_8abf5 h18 11 = some (nI (t + 1)) := by rw [kz11 C2, G13]
      rw [pre, ea, if_pos rfl, snd, obs, es, if_neg (show ¬ bI true = 0 by decide), r17, obs, gl2 (by rw [K14.1.1]; decide) (by rw [kE1]; decide), obs, a1, obs]
      show ((xgr h18 1 12 1).bind _) = _
      rw [r19, obs, z20, obs, nI_pred]
      unfold resV
      rw [ea, if_pos rfl, es, if_pos rfl]
end
