/-! ===== the start: the invariant ===== -/
section
variable {h h' g : AH} {σ : SG} {L N : Nat} {xs : Nat → Int32}
theorem kd_hs {r : Nat} (hr : r < 9000) : kd (hstart L xs) r = 0 := by
  show (if r = 9000 ∨ r = 9001 ∨ r = 9002 then 30 else if 9100 ≤ r ∧ r < 9116 then 40 else if 9120 ≤ r ∧ r < 9136 then 41 else if r = 9200 then 33 else if r = 9300 ∨ r = 9301 then 50 else 0) = 0
  rw [if_neg (by omega), if_neg (by omega), if_neg (by omega), if_neg (by omega), if_neg (by omega)]
theorem kdz {r : Nat} (h1 : 41 ≤ r) (h2 : r < 9000) : kd (H1 L xs) r = 0 := by
  rw [kdH1]
  repeat rw [if_neg (by omega)]
  exact kd_hs h2
theorem tS3 : ∀ i, i < 16 → kd (H1 L xs) (9100 + i) = 40 ∧ kd (H1 L xs) (9120 + i) = 41 ∧ ln (H1 L xs) (9120 + i) = SLEN.getD i 0 ∧ ai (H1 L xs) (9120 + i) = fun j => (SBYT.getD i []).getD j 0 := by
  intro i hi
  have e : i = 0 ∨ i = 1 ∨ i = 2 ∨ i = 3 ∨ i = 4 ∨ i = 5 ∨ i = 6 ∨ i = 7 ∨ i = 8 ∨ i = 9 ∨ i = 10 ∨ i = 11 ∨ i = 12 ∨ i = 13 ∨ i = 14 ∨ i = 15 := by omega
  rcases e with rfl | rfl | rfl | rfl | rfl | rfl | rfl | rfl | rfl | rfl | rfl | rfl | rfl | rfl | rfl | rfl <;> exact ⟨rfl, rfl, rfl, rfl⟩
theorem w71 : ∀ j : Fin 79, ROW71 j.val = WRDS.getD j.val 0 := by decide +kernel
theorem rowz : ∀ k, k ≠ 5 → k ≠ 6 → k ≠ 25 → k ≠ 66 → k ≠ 71 → ROW k = fun _ => 0 := by
  intro k h1 h2 h3 h4 h5
  unfold ROW
  rw [if_neg h1, if_neg h2, if_neg h3, if_neg h4, if_neg h5]
theorem fi_mk0 {r c m : Nat} : fi (mkc h r c m) r = fun _ => 0 := if_pos rfl
theorem inv0 (hN : 2000 < N) : ∃ q4 σ tr, f_X12_init (H3 L xs) N 100 = some q4 ∧ INV L xs q4 σ tr 0 0 := by
  have E13 : ∀ r, r ≠ 100 → EQR (H1 L xs) (H3 L xs) r := fun r hr => EQR.mkc hr
  have R0 : RP (H3 L xs) (H3 L xs) 1 (fun _ => 0) := by
    refine ⟨kd_mkc, fun k hk hz => ?_, fun r a b => ?_, fun r _ => EQR.refl, fi_mk0⟩
    · have : k = 0 := by omega
      subst this
      exact absurd (show rlen.getD 0 0 = 0 by decide) hz
    · rw [(E13 r (by omega)).1]; exact kdz (by omega) (by omega)
  obtain ⟨hM, e1, RM⟩ := x12_run R0
  obtain ⟨m1, m2, m3, m4, m5⟩ := RM
  have RSM : RS hM (PHI, fun k => ai hM (100 + k)) := ⟨m1, fun k hk hz => (m2 k hk hz).1, fun k => by rw [m5], fun k _ => rfl⟩
  obtain ⟨h5, A, B, e5, H5, F5, hA, hB⟩ := r_clears0 (N := N) RSM hN
  have q : ∀ r, r < 100 ∨ 177 ≤ r → EQR (H1 L xs) hM r := fun r hr => (E13 r (by omega)).trans (m4 r hr)
  obtain ⟨σ, eσ⟩ : ∃ σ, σ = kT (PHI, fun k => ai hM (100 + k)) A B := ⟨_, rfl⟩
  rw [← eσ] at H5
  have g1 : ∀ k, σ.1 k = PHI k := fun k => by rw [eσ]; rfl
  have g11 : σ.2 11 = A := by rw [eσ]; rfl
  have g12 : σ.2 12 = B := by rw [eσ]; rfl
  have g2 : ∀ k, k < 77 → rlen.getD k 0 ≠ 0 → k ≠ 11 → k ≠ 12 → σ.2 k = ROW k := fun k a b c d => by
    rw [eσ]
    show (if k = 11 then A else if k = 12 then B else ai hM (100 + k)) = _
    rw [if_neg c, if_neg d]; exact (m2 k a b).2
  have c0 : ∀ k, PHI k = 0 → cn σ k = 0 := fun k hk => by unfold cn; rw [g1, hk]; decide
  have ct0 : ∀ k, k < 100 → PHI k = 0 → ct σ k = 0 := fun k a b => by unfold ct; rw [if_pos a]; exact c0 k b
  have lz : ∀ li, 10 ≤ li → li ≤ 13 → fr (H1 L xs) li 1 = some 9200 → ∀ el, LZ hM li 0 el := fun li a b c el => Or.inl ⟨rfl, by rw [(q li (by omega)).2.2.2.1]; exact c, fun i hi => by rw [(q _ (by omega)).1]; exact kdz (by omega) (by omega)⟩
  have c7 := c0 7 (by decide)
  have C : CS hM σ (fun _ => 0) 0 := by
    have tcf : ∀ p ∈ cfr, p.1 < 100 := by decide
    have tck : ∀ p ∈ ckd, p.1 < 100 := by decide
    have tcl : ∀ p ∈ cln, p.1 < 100 := by decide
    have tI : ∀ p ∈ dI, p.1 < 100 := by decide
    have tC : ∀ p ∈ dC, p.1 < 100 := by decide
    have tF : ∀ p ∈ dF, (p.2.2.2.1 < 100 ∧ PHI p.2.2.2.1 = 0) ∨ p = (23, 0, 66, 103, 3) ∨ p = (23, 1, 67, 103, 3) := by decide
    have tA : ∀ p ∈ dA, p = (16, 1, 0, 5, 4) ∨ ((p.1 = 17 ∨ p.1 = 34 ∨ p.1 = 35 ∨ p.1 = 36 ∨ p.1 = 37) ∧ p.2.2.2.1 < 77 ∧ rlen.getD p.2.2.2.1 0 ≠ 0 ∧ p.2.2.2.1 ≠ 11 ∧ p.2.2.2.1 ≠ 12 ∧ p.2.2.2.1 ≠ 5 ∧ p.2.2.2.1 ≠ 6 ∧ p.2.2.2.1 ≠ 25 ∧ p.2.2.2.1 ≠ 66 ∧ p.2.2.2.1 ≠ 71) := by decide
    have tB : ∀ p ∈ dB, (p.2.2.2.1 < 100 ∧ PHI p.2.2.2.1 = 0) ∨ p = (38, 40, 68, 103, 3) := by decide
    have tO : ∀ p ∈ oB, p.2.1 < 100 ∧ PHI p.2.1 = 0 ∧ 200 ≤ p.1 ∧ p.1 + p.2.2.2 ≤ 500 := by decide
    refine ⟨⟨fun p hp => ?_, fun p hp => ?_, fun p hp => ?_, fun j hj => ?_⟩, ⟨?_, ?_, ?_, ?_, ?_⟩, ⟨fun p hp => ?_, fun p hp => ?_, fun p hp j hj => ?_, fun p hp j hj => ?_, fun p hp j hj i hi => ?_⟩, fun p hp => ⟨fun j hj => ?_, fun j h1 h2 => ?_⟩, ⟨fun j hj => ?_, fun j h1 h2 => ?_⟩, Or.inl ⟨?_, ?_⟩, ?_, fun i hi => ?_, ⟨?_, fun t ht => ?_, ?_, fun i hi => absurd hi (by omega)⟩, ?_, ?_, ?_⟩
    · rw [(q _ (Or.inl (tcf p hp))).2.2.2.1]; exact tK1 p hp
    · rw [(q _ (Or.inl (tck p hp))).1]; exact tK2 p hp
    · rw [(q _ (Or.inl (tcl p hp))).2.1]; exact tK3 p hp
    · rw [(q 22 (by omega)).2.2.2.2.2]; exact tK4 j hj
    · have z := q 9001 (by omega)
      rw [z.1, z.2.1, z.2.2.2.2.1]; exact ⟨rfl, rfl, fun j hj => rfl⟩
    · have z := q 9002 (by omega)
      rw [z.1, z.2.1, z.2.2.2.2.1]; exact ⟨rfl, rfl, fun j hj => rfl⟩
    · intro i hi
      have z := q (9120 + i) (by omega)
      rw [(q (9100 + i) (by omega)).1, z.1, z.2.1, z.2.2.2.2.1]; exact tS3 i hi
    · have z := q 9200 (by omega)
      rw [z.1, z.2.1]; exact ⟨rfl, rfl⟩
    · rw [(q 9300 (by omega)).1]; rfl
    · rw [(q _ (Or.inl (tI p hp))).2.2.1, g1]; exact tI1 p hp
    · rw [(q _ (Or.inl (tC p hp))).2.2.1]; exact tI2 p hp
    · rcases tF p hp with z | z | z
      · rw [ct0 _ z.1 z.2] at hj; omega
      · subst z
        have hj3 : j < 3 := hj
        show fi hM (23 + j) 0 = σ.2 66 j
        rw [(q (23 + j) (by omega)).2.2.1, g2 66 (by decide) (by decide) (by decide) (by decide)]
        have e : j = 0 ∨ j = 1 ∨ j = 2 := by omega
        rcases e with rfl | rfl | rfl <;> rfl
      · subst z
        have hj3 : j < 3 := hj
        show fi hM (23 + j) 1 = σ.2 67 j
        rw [(q (23 + j) (by omega)).2.2.1, g2 67 (by decide) (by decide) (by decide) (by decide)]
        have e : j = 0 ∨ j = 1 ∨ j = 2 := by omega
        rcases e with rfl | rfl | rfl <;> rfl
    · rcases tA p hp with z | ⟨z1, z2, z3, z4, z5, z6, z7, z8, z9, z10⟩
      · subst z
        have hj4 : j < 4 := hj
        show ai hM 16 (1 * j + 0) = σ.2 5 j
        rw [(q 16 (by omega)).2.2.2.2.1, g2 5 (by decide) (by decide) (by decide) (by decide)]
        have e : j = 0 ∨ j = 1 ∨ j = 2 ∨ j = 3 := by omega
        rcases e with rfl | rfl | rfl | rfl <;> rfl
      · rw [(q p.1 (by omega)).2.2.2.2.1, g2 _ z2 z3 z4 z5, rowz _ z6 z7 z8 z9 z10]
        rcases z1 with z | z | z | z | z <;> rw [z] <;> rfl
    · rcases tB p hp with z | z
      · rw [ct0 _ z.1 z.2] at hj; omega
      · subst z
        have hj3 : j < 3 := hj
        show ai hM (38 + j) i = σ.2 68 (40 * j + i)
        rw [(q (38 + j) (by omega)).2.2.2.2.1, g2 68 (by decide) (by decide) (by decide) (by decide), rowz 68 (by decide) (by decide) (by decide) (by decide) (by decide)]
        have e : j = 0 ∨ j = 1 ∨ j = 2 := by omega
        rcases e with rfl | rfl | rfl <;> rfl
    · obtain ⟨z1, z2, z3, z4⟩ := tO p hp
      rw [ct0 _ z1 z2] at hj; omega
    · obtain ⟨z1, z2, z3, z4⟩ := tO p hp
      rw [(q _ (by omega)).1]; exact kdz (by omega) (by omega)
    · rw [c0 26 (by decide)] at hj; omega
    · rw [(q _ (by omega)).1]; exact kdz (by omega) (by omega)
    · rw [(q 1 (by omega)).2.2.2.1]; rfl
    · rw [g1]; rfl
    · unfold TT
      rw [c7, (q 30 (by omega)).2.2.2.2.1]
      exact ⟨fun c hc => rfl, fun n hn => absurd hn (by omega)⟩
    · rw [(q 33 (by omega)).2.2.2.2.1, g2 62 (by decide) (by decide) (by decide) (by decide), rowz 62 (by decide) (by decide) (by decide) (by decide) (by decide)]; rfl
    · rw [c0 13 (by decide)]; exact lz 11 (by omega) (by omega) rfl _
    · rw [c0 13 (by decide)] at ht; omega
    · intro i h1 h2 d hd
      rw [(q _ (by omega)).1]; exact kdz (by omega) (by omega)
    · rw [c0 0 (by decide)]; exact lz 10 (by omega) (by omega) rfl _
    · rw [c0 26 (by decide)]; exact lz 12 (by omega) (by omega) rfl _
    · rw [c0 46 (by decide)]; exact lz 13 (by omega) (by omega) rfl _
  have rz : ∀ k, k < 77 → rlen.getD k 0 ≠ 0 → k ≠ 11 → k ≠ 12 → k ≠ 5 → k ≠ 6 → k ≠ 25 → k ≠ 66 → k ≠ 71 → σ.2 k = fun _ => 0 := fun k a b c d e f g i j => by rw [g2 k a b c d]; exact rowz k e f g i j
  have b0 : ∀ m : Nat, 0 < m → bd 0 m := fun m hm => ⟨0, hm, lt0⟩
  have W : WV σ := by
    have tM : ∀ p ∈ cmax, PHI p.1 = 0 := by decide
    have tR : ∀ p ∈ wR, (p.2.1 < 100 ∧ PHI p.2.1 = 0) ∨ p = (35, 104, 106) := by decide
    refine ⟨fun p hp => ?_, fun p hp j hj => ?_, ?_, ⟨fun i hi => ?_, fun c hc => ?_, fun c hc => ?_⟩, ⟨fun j hj => ?_, fun j hj => ?_, ?_⟩, fun t ht => ?_⟩
    · rw [c0 _ (tM p hp), g1, tM p hp]; exact ⟨by decide, by omega⟩
    · rcases tR p hp with z | z
      · rw [ct0 _ z.1 z.2] at hj; omega
      · subst z
        show bd (σ.2 35 j) 6
        rw [rz 35 (by decide) (by decide) (by decide) (by decide) (by decide) (by decide) (by decide) (by decide) (by decide)]; exact b0 6 (by omega)
    · unfold WL
      rw [g2 5 (by decide) (by decide) (by decide) (by decide)]
      exact ⟨⟨40, by omega, rfl⟩, ⟨500, by omega, rfl⟩, ⟨20, by omega, rfl⟩, ⟨0, by omega, rfl⟩⟩
    · rw [c7] at hi; omega
    · rw [g11, hA c hc, c7]; rfl
    · rw [g12, hB c hc, c7]; rfl
    · rw [g2 25 (by decide) (by decide) (by decide) (by decide)]
      have e : j = 0 ∨ j = 1 ∨ j = 2 ∨ j = 3 := by omega
      rcases e with rfl | rfl | rfl | rfl <;> rfl
    · rw [g2 6 (by decide) (by decide) (by decide) (by decide)]
      have e : j = 0 ∨ j = 1 ∨ j = 2 ∨ j = 3 := by omega
      rcases e with rfl | rfl | rfl | rfl <;> rfl
    · rw [g1]; rfl
    · rw [c0 13 (by decide)] at ht; omega
  have X : WX σ 0 := by
    refine ⟨fun j hj => ?_, ?_, fun i hi => ?_, ?_, fun j hj => ⟨?_, ?_⟩, fun j hj => ?_, fun j hj => ?_, fun j h1 h2 => ⟨?_, ?_, fun s hs => ?_⟩, fun t ht => ⟨?_, ?_⟩⟩
    · rw [c0 26 (by decide)] at hj; omega
    · rw [g1]; exact b0 _ (by omega)
    · rw [rz 62 (by decide) (by decide) (by decide) (by decide) (by decide) (by decide) (by decide) (by decide) (by decide)]; exact b0 _ (by omega)
    · rw [g1]; exact b0 _ (by omega)
    · rw [g2 66 (by decide) (by decide) (by decide) (by decide)]
      have e : j = 0 ∨ j = 1 ∨ j = 2 := by omega
      rcases e with rfl | rfl | rfl <;> exact ⟨0, by omega, rfl⟩
    · rw [rz 67 (by decide) (by decide) (by decide) (by decide) (by decide) (by decide) (by decide) (by decide) (by decide)]; exact b0 _ (by omega)
    · rw [c0 55 (by decide)] at hj; omega
    · rw [g2 71 (by decide) (by decide) (by decide) (by decide)]; exact w71 ⟨j, hj⟩
    · rw [rz 31 (by decide) (by decide) (by decide) (by decide) (by decide) (by decide) (by decide) (by decide) (by decide)]
    · rw [rz 33 (by decide) (by decide) (by decide) (by decide) (by decide) (by decide) (by decide) (by decide) (by decide)]
    · rw [rz 34 (by decide) (by decide) (by decide) (by decide) (by decide) (by decide) (by decide) (by decide) (by decide)]
    · rw [rz 17 (by decide) (by decide) (by decide) (by decide) (by decide) (by decide) (by decide) (by decide) (by decide)]; exact b0 _ (by omega)
    · rw [rz 18 (by decide) (by decide) (by decide) (by decide) (by decide) (by decide) (by decide) (by decide) (by decide)]; exact b0 _ (by omega)
  refine ⟨h5, σ, fun _ => 0, ?_, C.frc F5, H5, W, X, ?_, Nat.le_refl _⟩
  · rw [xe_all (M := 0), e1, obs, e5, obs]
  · obtain ⟨f1, f2, f4, f5', f6⟩ := F5
    have z := q 9000 (by omega)
    rw [f1, f2, (f6 9000 (by omega)).2, z.1, z.2.1, z.2.2.2.2.1]
    exact ⟨rfl, rfl, rfl⟩
theorem law0 (hL : L ≤ 4096) : ∃ h', f_L_law (hstart L xs) 4000 9000 = some (1, h') := by
  obtain ⟨q4, σ, tr, e4, I⟩ := inv0 (L := L) (xs := xs) (N := 4000) (by omega)
  obtain ⟨h', e⟩ := l_loop (N := 4000) (by omega) hL 512 4000 0 q4 σ tr 0 (by omega) (by omega) (by omega) I
  refine ⟨h', ?_⟩
  have k9 : kd (hstart L xs) 9000 = 30 := rfl
  have k1 : kd (hstart L xs) 1 = 0 := rfl
  have kA9 : kd (H0 L xs) 9000 = 30 := rfl
  have kA1 : kd (H0 L xs) 1 = 13 := rfl
  have kB1 : kd (H1 L xs) 1 = 13 := rfl
  have kB9 : kd (H1 L xs) 9000 = 30 := rfl
  have kBz : kd (H1 L xs) 100 = 0 := kdz (by omega) (by omega)
  have kC1 : kd (H3 L xs) 1 = 13 := by rw [show kd (H3 L xs) 1 = kd (H1 L xs) 1 from kd_mkc_ne (by omega)]; exact kB1
  have kC9 : kd (H3 L xs) 9000 = 30 := by rw [show kd (H3 L xs) 9000 = kd (H1 L xs) 9000 from kd_mkc_ne (by omega)]; exact kB9
  have kC100 : kd (H3 L xs) 100 = 14 := kd_mkc
  have w1 : xnw (hstart L xs) 1 12 = some (H0 L xs) := xnw_ok k1
  have w3 : xnw (H1 L xs) 100 13 = some (H3 L xs) := xnw_ok kBz
  have e' : f_L_law_b18 4000 4000 q4 9000 1 100 0 = some (1, h') := e
  unfold f_L_law
  rw [gl1 (by rw [k9]; decide), obs, w1, obs, gl2 (by rw [kA9]; decide) (by rw [kA1]; decide), obs, x11_ok, obs, gl2 (by rw [kB1]; decide) (by rw [kB9]; decide), obs, w3, obs, gl3 (by rw [kC1]; decide) (by rw [kC9]; decide) (by rw [kC100]; decide), obs, e4, obs, e']
end
