/-! ===== the world after term ===== -/
section
variable {L N : Nat} {xs : Nat → Int32} {h h' h0 h1 h2 : AH} {σ σ' y : SG} {tr tr' : Nat → Nat} {u u' n b t c : Nat}
/-- scalars 13, 63, 69, 70 and rows 14 to 24 may differ -/
def SGT (σ σ' : SG) : Prop := (∀ k, k ≠ 13 → k ≠ 63 → k ≠ 69 → k ≠ 70 → σ'.1 k = σ.1 k) ∧ ∀ k, k < 14 ∨ 24 < k → σ'.2 k = σ.2 k
def EQT (b : Nat) (h h' : AH) : Prop := (∀ r, r ≠ 15 → r ≠ 11 → (r < 488 ∨ 496 ≤ r) → (r < b ∨ b + 5 < r) → EQR h h' r) ∧ (kd h' 15 = kd h 15 ∧ ln h' 15 = ln h 15 ∧ fr h' 15 = fr h 15) ∧ ∀ k, k ≠ 1 → k ≠ 2 → k ≠ 3 → fi h' 15 k = fi h 15 k
theorem CS.term (C : CS h σ tr u) (W : CT σ) (hb : 1000 ≤ b ∧ b + 5 < 9000) (E : EQT b h h') (k11 : kd h' 11 = 1) (S : SGT σ σ') (f11 : fi h' 11 2 = σ'.1 13) (f15 : fi h' 15 1 = σ'.1 63) (tm : TM h' σ' tr' u') : CS h' σ' tr' u' := by
  obtain ⟨⟨k1, k2, k3, k4⟩, ⟨s1, s2, s3, s4, s5⟩, ⟨d1, d2, d3, d4, d5⟩, ob, cr, ac, tt, tp, -, l1, l2, l3⟩ := C
  obtain ⟨e, ⟨e15k, e15l, e15f⟩, e15i⟩ := E
  obtain ⟨g1, g2⟩ := S
  have hF := W.f
  have cN : ∀ k, k ≠ 13 → k ≠ 63 → k ≠ 69 → k ≠ 70 → cn σ' k = cn σ k := fun k a b c d => by unfold cn; rw [g1 k a b c d]
  have q : ∀ r, r ≠ 15 → r ≠ 11 → (r < 488 ∨ 496 ≤ r) → (r < 1000 ∨ 9000 ≤ r) → EQR h h' r := fun r a b c d => e r a b c (by omega)
  have tfr : ∀ p ∈ cfr, p.1 ≠ 11 ∧ p.1 < 100 := by decide
  have tkd : ∀ p ∈ ckd, p.1 < 100 ∧ (p.1 = 11 → p.2 = 1) := by decide
  have tln : ∀ p ∈ cln, p.1 < 100 ∧ p.1 ≠ 11 := by decide
  have tI : ∀ p ∈ dI, p.1 < 100 ∧ ((p.1 ≠ 15 ∧ p.1 ≠ 11 ∧ p.2.2 ≠ 13 ∧ p.2.2 ≠ 63 ∧ p.2.2 ≠ 69 ∧ p.2.2 ≠ 70) ∨ p = (11, 2, 13) ∨ p = (15, 1, 63)) := by decide
  have tC : ∀ p ∈ dC, p.1 < 100 ∧ p.1 ≠ 15 ∧ p.1 ≠ 11 := by decide
  have tF : ∀ p ∈ dF, p.1 + p.2.2.2.2 ≤ 400 ∧ 20 ≤ p.1 ∧ (p.2.2.1 < 14 ∨ 24 < p.2.2.1) ∧ p.2.2.2.1 ≠ 13 ∧ p.2.2.2.1 ≠ 63 ∧ p.2.2.2.1 ≠ 69 ∧ p.2.2.2.1 ≠ 70 := by decide
  have tA : ∀ p ∈ dA, p.1 < 100 ∧ p.1 ≠ 15 ∧ p.1 ≠ 11 ∧ (p.2.2.2.1 < 14 ∨ 24 < p.2.2.2.1) := by decide
  have tB : ∀ p ∈ dB, p.1 + p.2.2.2.2 ≤ 400 ∧ 20 ≤ p.1 ∧ (p.2.2.1 < 14 ∨ 24 < p.2.2.1) ∧ p.2.2.2.1 ≠ 13 ∧ p.2.2.2.1 ≠ 63 ∧ p.2.2.2.1 ≠ 69 ∧ p.2.2.2.1 ≠ 70 := by decide
  have tO : ∀ p ∈ oB, p.1 + p.2.2.2 ≤ 420 ∧ 20 ≤ p.1 ∧ p.2.1 ≠ 13 ∧ p.2.1 ≠ 63 ∧ p.2.1 ≠ 69 ∧ p.2.1 ≠ 70 ∧ p.2.1 < 100 := by decide
  have cT : ∀ k, k ≠ 13 → k ≠ 63 → k ≠ 69 → k ≠ 70 → ct σ' k = ct σ k := fun k a b c d => by unfold ct; rw [cN k a b c d]
  have mO : ∀ p ∈ oB, ct σ p.2.1 ≤ p.2.2.2 := by
    have tm : ∀ p ∈ oB, (p.2.1, p.2.2.2) ∈ cmax := by decide
    intro p hp
    have := (W _ (tm p hp)).2
    unfold ct
    rw [if_pos (tO p hp).2.2.2.2.2.2]
    exact this
  have hcix : ∀ i, cix σ' i = cix σ i := fun i => by unfold cix; rw [g2 8 (by omega), g2 9 (by omega)]
  have hlN : ∀ k c, lN_ σ' k c = lN_ σ k c := by
    intro k
    induction k with
    | zero => intro c; rfl
    | succ k ih => intro c; unfold lN_; rw [hcix, ih]
  refine ⟨⟨fun p hp => ?_, fun p hp => ?_, fun p hp => ?_, fun j hj => ?_⟩, ⟨?_, ?_, ?_, ?_, ?_⟩, ⟨fun p hp => ?_, fun p hp => ?_, fun p hp j hj => ?_, fun p hp j hj => ?_, fun p hp j hj i hi => ?_⟩, fun p hp => ⟨fun j hj => ?_, fun j h1 h2 => ?_⟩, ?_, ?_, ?_, ?_, tm, ?_, ?_, ?_⟩
  · have t := tfr p hp
    by_cases z : p.1 = 15
    · rw [z, e15f, ← z]; exact k1 p hp
    · rw [(q p.1 z t.1 (by omega) (by omega)).2.2.2.1]; exact k1 p hp
  · have t := tkd p hp
    by_cases z : p.1 = 15
    · rw [z, e15k, ← z]; exact k2 p hp
    · by_cases z2 : p.1 = 11
      · rw [z2, k11, t.2 z2]
      · rw [(q p.1 z z2 (by omega) (by omega)).1]; exact k2 p hp
  · have t := tln p hp
    by_cases z : p.1 = 15
    · rw [z, e15l, ← z]; exact k3 p hp
    · rw [(q p.1 z t.2 (by omega) (by omega)).2.1]; exact k3 p hp
  · rw [(q 22 (by omega) (by omega) (by omega) (by omega)).2.2.2.2.2]; exact k4 j hj
  · have z := q 9001 (by omega) (by omega) (by omega) (by omega)
    rw [z.1, z.2.1, z.2.2.2.2.1]; exact s1
  · have z := q 9002 (by omega) (by omega) (by omega) (by omega)
    rw [z.1, z.2.1, z.2.2.2.2.1]; exact s2
  · intro i hi
    have z := q (9120 + i) (by omega) (by omega) (by omega) (by omega)
    rw [(q (9100 + i) (by omega) (by omega) (by omega) (by omega)).1, z.1, z.2.1, z.2.2.2.2.1]; exact s3 i hi
  · have z := q 9200 (by omega) (by omega) (by omega) (by omega)
    rw [z.1, z.2.1]; exact s4
  · rw [(q 9300 (by omega) (by omega) (by omega) (by omega)).1]; exact s5
  · obtain ⟨t0, t⟩ := tI p hp
    rcases t with ⟨t1, t2, t3, t4, t5, t6⟩ | t | t
    · rw [(q p.1 t1 t2 (by omega) (by omega)).2.2.1, g1 _ t3 t4 t5 t6]; exact d1 p hp
    · rw [t]; exact f11
    · rw [t]; exact f15
  · have t := tC p hp
    rw [(q p.1 t.2.1 t.2.2 (by omega) (by omega)).2.2.1]; exact d2 p hp
  · obtain ⟨t1, t2, t3, t4, t5, t6, t7⟩ := tF p hp
    rw [cT _ t4 t5 t6 t7] at hj
    have hm := Nat.lt_of_lt_of_le hj (W.F p hp)
    rw [(q (p.1 + j) (by omega) (by omega) (by omega) (by omega)).2.2.1, g2 _ t3]; exact d3 p hp j hj
  · obtain ⟨t1, t2, t3, t4⟩ := tA p hp
    rw [(q p.1 t2 t3 (by omega) (by omega)).2.2.2.2.1, g2 _ t4]; exact d4 p hp j hj
  · obtain ⟨t1, t2, t3, t4, t5, t6, t7⟩ := tB p hp
    rw [cT _ t4 t5 t6 t7] at hj
    have hm := Nat.lt_of_lt_of_le hj (W.B p hp)
    rw [(q (p.1 + j) (by omega) (by omega) (by omega) (by omega)).2.2.2.2.1, g2 _ t3]; exact d5 p hp j hj i hi
  · obtain ⟨t1, t2, t4, t5, t6, t7, t8⟩ := tO p hp
    rw [cT _ t4 t5 t6 t7] at hj
    have := mO p hp
    rw [(q (p.1 + j) (by omega) (by omega) (by omega) (by omega)).1]; exact (ob p hp).1 j hj
  · obtain ⟨t1, t2, t4, t5, t6, t7, t8⟩ := tO p hp
    rw [cT _ t4 t5 t6 t7] at h1
    rw [(q (p.1 + j) (by omega) (by omega) (by omega) (by omega)).1]; exact (ob p hp).2 j h1 h2
  · unfold CR
    rw [cN 26 (by decide) (by decide) (by decide) (by decide)]
    refine ⟨fun j hj => ?_, fun j h1 h2 => ?_⟩
    · have a3 := q (300 + j) (by omega) (by omega) (by omega) (by omega)
      have a6 := q (360 + j) (by omega) (by omega) (by omega) (by omega)
      rw [a6.1, a6.2.2.2.1, (q (390 + j) (by omega) (by omega) (by omega) (by omega)).2.1, (q (330 + j) (by omega) (by omega) (by omega) (by omega)).2.1, a3.2.2.2.1, a3.2.2.1, a6.2.2.1, g2 29 (by omega), g2 30 (by omega)]
      exact cr.1 j hj
    · rw [(q (360 + j) (by omega) (by omega) (by omega) (by omega)).1]; exact cr.2 j h1 h2
  · unfold AC
    rw [(q 1 (by omega) (by omega) (by omega) (by omega)).2.2.2.1, cN 26 (by decide) (by decide) (by decide) (by decide), g1 64 (by decide) (by decide) (by decide) (by decide), g2 65 (by omega)]
    rcases ac with z | ⟨j, z1, z2, z3, z4⟩
    · exact Or.inl z
    · exact Or.inr ⟨j, z1, z2, by rw [(q (360 + j) (by omega) (by omega) (by omega) (by omega)).2.2.1]; exact z3, fun i hi hr => by rw [(q (390 + j) (by omega) (by omega) (by omega) (by omega)).2.2.2.2.1]; exact z4 i hi hr⟩
  · unfold TT
    rw [(q 30 (by omega) (by omega) (by omega) (by omega)).2.2.2.2.1, (q 31 (by omega) (by omega) (by omega) (by omega)).2.2.2.2.1, (q 32 (by omega) (by omega) (by omega) (by omega)).2.2.2.2.1, cN 7 (by decide) (by decide) (by decide) (by decide), g2 10 (by omega)]
    exact ⟨fun c hc => by rw [hlN]; exact tt.1 c hc, fun n hn => by rw [hlN, hcix]; exact tt.2 n hn⟩
  · unfold TP; rw [(q 33 (by omega) (by omega) (by omega) (by omega)).2.2.2.2.1, g2 62 (by omega)]; exact tp
  · rw [cN 0 (by decide) (by decide) (by decide) (by decide)]; exact l1.eq (q 10 (by omega) (by omega) (by omega) (by omega)) (fun i hi => q _ (by omega) (by omega) (by omega) (by omega))
  · rw [cN 26 (by decide) (by decide) (by decide) (by decide)]; exact l2.eq (q 12 (by omega) (by omega) (by omega) (by omega)) (fun i hi => q _ (by omega) (by omega) (by omega) (by omega))
  · rw [cN 46 (by decide) (by decide) (by decide) (by decide)]; exact l3.eq (q 13 (by omega) (by omega) (by omega) (by omega)) (fun i hi => q _ (by omega) (by omega) (by omega) (by omega))
/-- the terms that were there stand -/
theorem TM.slot (T : TM h σ tr u) (W : WV σ) (hu : u < 600) (ht : cn σ 13 = t) (E : ∀ r, 1000 ≤ r → r < 9000 → (r < 1000 + 8 * u ∨ 1000 + 8 * u + 5 < r) → EQR h h' r) (kb : kd h' (1000 + 8 * u) = 12) (S : YPB t σ σ' ∨ ∀ k j, ¬ (14 ≤ k ∧ k ≤ 19 ∧ j = t) → ¬ (20 ≤ k ∧ k ≤ 24 ∧ 4 * t ≤ j ∧ j < 4 * t + 4) → σ'.2 k j = σ.2 k j) : (∀ i, i < t → tr i < u ∧ TM1 h' σ' (1000 + 8 * tr i) i) ∧ TU h' (u + 1) := by
  have g : ∀ k j, ¬ (14 ≤ k ∧ k ≤ 19 ∧ j = t) → ¬ (20 ≤ k ∧ k ≤ 24 ∧ 4 * t ≤ j ∧ j < 4 * t + 4) → σ'.2 k j = σ.2 k j := by
    rcases S with S | S
    · exact S.2
    · exact S
  obtain ⟨-, t2, t3⟩ := T
  refine ⟨fun i hi => ?_, ?_, ?_⟩
  · rw [← ht] at hi
    obtain ⟨hb, e⟩ := t2 i hi
    rw [ht] at hi
    refine ⟨hb, ?_⟩
    have cs4 : cs σ i ≤ 4 := (W.2.2.2.2.2 i (by omega)).1.2.2
    have q : ∀ d, d < 6 → EQR h h' (1000 + 8 * tr i + d) := fun d hd => E _ (by omega) (by omega) (by omega)
    have q0 : EQR h h' (1000 + 8 * tr i) := q 0 (by omega)
    have gi : ∀ k, 14 ≤ k → k ≤ 19 → σ'.2 k i = σ.2 k i := fun k a b => g k i (by omega) (by omega)
    have gc : ∀ k j, 20 ≤ k → k ≤ 24 → j < 4 → σ'.2 k (4 * i + j) = σ.2 k (4 * i + j) := fun k j a b c => g k _ (by omega) (by omega)
    have ecs : cs σ' i = cs σ i := by unfold cs; rw [gi 19 (by omega) (by omega)]
    obtain ⟨⟨a0, a1, a2, a3, a4, a5⟩, b1, ⟨c0, c1, c5⟩, d1, d2⟩ := e
    refine ⟨⟨?_, ?_, ?_, ?_, ?_, ?_⟩, fun d hd => ⟨?_, ?_⟩, ⟨?_, ?_, ?_⟩, fun j hj => ?_, ?_⟩
    · rw [q0.1]; exact a0
    · rw [(q 1 (by omega)).1]; exact a1
    · rw [(q 2 (by omega)).1]; exact a2
    · rw [(q 3 (by omega)).1]; exact a3
    · rw [(q 4 (by omega)).1]; exact a4
    · rw [(q 5 (by omega)).1]; exact a5
    · have := (q (1 + d) (by omega)).2.1
      rw [← Nat.add_assoc] at this
      rw [this]; exact (b1 d hd).1
    · rw [q0.2.2.2.1]; exact (b1 d hd).2
    · rw [q0.2.2.1, gi 14 (by omega) (by omega)]; exact c0
    · rw [q0.2.2.1, gi 15 (by omega) (by omega)]; exact c1
    · rw [q0.2.2.1, gi 19 (by omega) (by omega)]; exact c5
    · rw [ecs] at hj
      rw [(q 2 (by omega)).2.2.2.2.1, (q 3 (by omega)).2.2.2.2.1, gc 21 j (by omega) (by omega) (by omega), gc 22 j (by omega) (by omega) (by omega)]; exact d1 j hj
    · rcases d2 with ⟨z1, z2⟩ | ⟨z1, z2, z3, z4, z5⟩
      · refine Or.inl ⟨by rw [gi 14 (by omega) (by omega)]; exact z1, fun j hj => ?_⟩
        rw [ecs] at hj
        rw [(q 1 (by omega)).2.2.2.2.1, (q 4 (by omega)).2.2.2.2.1, (q 5 (by omega)).2.2.2.2.1, gc 20 j (by omega) (by omega) (by omega), gc 24 j (by omega) (by omega) (by omega), gc 23 j (by omega) (by omega) (by omega)]; exact z2 j hj
      · refine Or.inr ⟨by rw [gi 14 (by omega) (by omega)]; exact z1, by rw [(q 1 (by omega)).2.2.2.2.1]; exact z2, ?_, ?_, ?_⟩
        · rw [q0.2.2.1, gi 16 (by omega) (by omega)]; exact z3
        · rw [q0.2.2.1, gi 17 (by omega) (by omega)]; exact z4
        · rw [q0.2.2.1, gi 18 (by omega) (by omega)]; exact z5
  · intro i h1 h2 d hd
    rw [(E (1000 + 8 * i + d) (by omega) (by omega) (by omega)).1]; exact t3.1 i (by omega) h2 d hd
  · intro i hi
    by_cases z : i = u
    · rw [z, kb]; decide
    · rw [(E (1000 + 8 * i) (by omega) (by omega) (by omega)).1]; exact t3.2 i (by omega)
theorem LZ.cg {li : Nat} {el el' : Nat → Nat} (Z : LZ h li n el) (e : ∀ j, j < n → el' j = el j) : LZ h li n el' := by
  rcases Z with z | ⟨i, a1, a2, a3, a4, a5, a6, a7⟩
  · exact Or.inl z
  · exact Or.inr ⟨i, a1, a2, a3, a4, a5, fun j hj => by rw [a6 j hj, e j hj], a7⟩
/-- the new term: class's block and reference's slot -/
theorem TM1.new (K : BK h b) (B : BV h b σ) (V : RV σ' σ t) (ha : accA σ = true) : TM1 h σ' b t := by
  have hk := kA_le ha
  have ecs : cs σ' t = kA σ := by unfold cs; rw [V.k, nI_clamp (by omega)]
  have v19 := V.k
  obtain ⟨b0, b1, b2⟩ := B
  obtain ⟨v0, v1, v2⟩ := V
  refine ⟨K.1, K.2.1, ⟨by rw [b0, v0], ?_, ?_⟩, fun i hi => ?_, ?_⟩
  · rcases e : isRateT σ
    · rw [(b2 e).1, (v2 e).1]
    · rw [(b1 e).1, (v1 e).1]
  · rcases e : isRateT σ
    · rw [(b2 e).2.1, (v2 e).2.1]
    · rw [(b1 e).2.2.2.2.1, (v1 e).2.2.2.2.1]
  · rw [ecs] at hi
    unfold kA at hi
    rcases e : isRateT σ
    · rw [e, if_neg (by decide)] at hi
      have c1 := (b2 e).2.2 i hi
      have c2 := (v2 e).2.2 i hi
      exact ⟨by rw [c1.2.1, c2.2.1], by rw [c1.2.2.1, c2.2.2.1]⟩
    · rw [e, if_pos rfl] at hi
      have : i = 0 := by omega
      subst this
      exact ⟨by rw [(b1 e).2.2.2.2.2.2.1]; exact (v1 e).2.2.2.2.2.1.symm, by rw [(b1 e).2.2.2.2.2.2.2]; exact (v1 e).2.2.2.2.2.2.symm⟩
  · rcases e : isRateT σ
    · refine Or.inl ⟨by rw [v0, e]; rfl, fun i hi => ?_⟩
      rw [ecs] at hi
      unfold kA at hi
      rw [e, if_neg (by decide)] at hi
      have c1 := (b2 e).2.2 i hi
      have c2 := (v2 e).2.2 i hi
      have okk : (q8 σ (sq σ i (py3 σ (0, false)))).2.2 = false := by
        unfold accA at ha
        rw [e, if_neg (by decide)] at ha
        unfold gP at ha hi
        by_cases q : (py3 σ (0, false)).2 = true
        · rw [if_pos q] at ha; cases ha
        · rw [if_neg q] at ha hi
          exact gL_ok 3 _ ha i hi
      have sg := sign_ok okk
      have kl := kdS_lt (σ := σ) (s := sq σ i (py3 σ (0, false)))
      have e8 : nI (8 + kdS σ (sq σ i (py3 σ (0, false)))) - 8 = nI (kdS σ (sq σ i (py3 σ (0, false)))) := by
        have t : ∀ k : Fin 4, nI (8 + k.val) - 8 = nI k.val := by decide
        exact t ⟨_, kl⟩
      exact ⟨by rw [c1.1, c2.1, e8], by rw [c1.2.2.2.1, c2.2.2.2.1]; exact sg, by rw [c1.2.2.2.2, c2.2.2.2.2]⟩
    · exact Or.inr ⟨by rw [v0, e]; rfl, (b1 e).2.2.2.2.2.1, by rw [(b1 e).2.1, (v1 e).2.1], by rw [(b1 e).2.2.1, (v1 e).2.2.1], by rw [(b1 e).2.2.2.1, (v1 e).2.2.2.1]⟩
theorem okS_all {A B : Nat → Int32} : ∀ (m i : Nat), okS A B m i = true → ∀ j, i ≤ j → j < i + m → ¬ B j < A j ∧ ¬ 11 < B j
  | 0, i, _, j, h1, h2 => by omega
  | m + 1, i, e, j, h1, h2 => by
    unfold okS at e
    simp at e
    by_cases z : j = i
    · subst z
      exact ⟨Int32.not_lt.mpr e.1, Int32.not_lt.mpr e.2.1⟩
    · exact okS_all m (i + 1) e.2.2 j (by omega) (by omega)
theorem TW.new (V : RV σ' σ t) (ha : accA σ = true) (hs : sndA σ = true) (b17 : bd (σ'.2 17 t) 10000 ∧ bd (σ'.2 18 t) 10000) : TW σ' t := by
  have hk := kA_le ha
  have ecs : cs σ' t = kA σ := by unfold cs; rw [V.k, nI_clamp (by omega)]
  unfold sndA at hs
  simp only [Bool.and_eq_true, Bool.or_eq_true] at hs
  have hall := okS_all _ _ hs.1
  have v21 := fun i (hi : i < kA σ) => V.A hi
  have bA : ∀ i, i < kA σ → bd (Af σ i) 10000 ∧ bd (Bf σ i) 10000 := by
    intro i hi
    unfold Af Bf
    rcases e : isRateT σ
    · rw [if_neg (by decide), if_neg (by decide)]
      refine ⟨nmS_bd (by omega), ?_⟩
      by_cases k3 : kdS σ (sq σ i (py3 σ (0, false))) = 3
      · unfold q4; rw [if_pos k3]; exact nmS_bd (by omega)
      · rw [q4_n k3]; exact nmS_bd (by omega)
    · rw [if_pos rfl, if_pos rfl]; exact ⟨nmS_bd (by omega), nmS_bd (by omega)⟩
  have v19 := V.k
  obtain ⟨v0, v1, v2⟩ := V
  have cw : ∀ i, i < kA σ → CW σ' (4 * t + i) := by
    intro i hi
    obtain ⟨x1, x2⟩ := v21 i hi
    obtain ⟨⟨p, hp, ep⟩, ⟨r, hr, er⟩⟩ := bA i hi
    obtain ⟨n1, n2⟩ := hall i (by omega) (by omega)
    have ca : cA σ' (4 * t + i) = p := by unfold cA; rw [x1, ep, nI_clamp (by omega)]
    have cb : cB σ' (4 * t + i) = r := by unfold cB; rw [x2, er, nI_clamp (by omega)]
    rw [ep, er, nI_ltI (by omega) (by omega)] at n1
    rw [er, show (11 : Int32) = nI 11 by decide, nI_ltI (by omega) (by omega)] at n2
    exact ⟨by rw [ca, x1, ep], by rw [cb, x2, er], by rw [ca, cb]; omega, by rw [cb]; omega⟩
  refine ⟨⟨by rw [ecs]; exact v19, by rw [ecs]; exact hk.1, by rw [ecs]; exact hk.2⟩, fun i hi => cw i (by rwa [ecs] at hi), ?_, ?_, b17.1, b17.2⟩
  · rcases e : isRateT σ
    · refine Or.inl ⟨by rw [v0, e]; rfl, fun i hi => ?_⟩
      rw [ecs] at hi
      obtain ⟨x1, x2⟩ := v21 i hi
      have hi' := hi
      unfold kA at hi'
      rw [e, if_neg (by decide)] at hi'
      have c2 := (v2 e).2.2 i hi'
      have kl := kdS_lt (σ := σ) (s := sq σ i (py3 σ (0, false)))
      refine ⟨?_, ?_⟩
      · rw [c2.1]
        have k4 : kdS σ (sq σ i (py3 σ (0, false))) = 0 ∨ kdS σ (sq σ i (py3 σ (0, false))) = 1 ∨ kdS σ (sq σ i (py3 σ (0, false))) = 2 ∨ kdS σ (sq σ i (py3 σ (0, false))) = 3 := by omega
        rcases k4 with z | z | z | z
        · rw [z]; exact Or.inl (by decide)
        · rw [z]; exact Or.inr (Or.inl (by decide))
        · rw [z]; exact Or.inr (Or.inr (Or.inl (by decide)))
        · refine Or.inr (Or.inr (Or.inr ⟨by rw [z]; decide, ?_⟩))
          unfold cA cB
          rw [c2.2.1, c2.2.2.1]
          unfold q4
          rw [if_pos z]
      · rw [c2.2.2.2.1]
        cases decide (tb σ (e5 σ (q4 σ (sq σ i (py3 σ (0, false)))).2).1 = nI 60)
        · exact Or.inl rfl
        · exact Or.inr rfl
    · refine Or.inr ⟨by rw [v0, e]; rfl, ?_⟩
      rw [(v1 e).2.1]
      have n2 : ¬ (rn2 σ (0, false)).1 ≤ 0 := by
        rcases hs.2 with z | z
        · rw [e] at z; cases z
        · simpa using z
      obtain ⟨p, hp, ep⟩ := nmS_bd (σ := σ) (m := 4) (s := rz2 σ (0, false)) (by omega)
      have ep' : (rn2 σ (0, false)).1 = nI p := ep
      rw [ep'] at n2 ⊢
      have p0 : p ≠ 0 := fun z => n2 (by rw [z]; decide)
      obtain ⟨p', rfl⟩ : ∃ p', p = p' + 1 := ⟨p - 1, by omega⟩
      exact ⟨p', by omega, nI_pred p'⟩
  · rcases e : isRateT σ
    · rw [(v2 e).1]; exact nmS_bd (by omega)
    · rw [(v1 e).1]; exact nmS_bd (by omega)
end
