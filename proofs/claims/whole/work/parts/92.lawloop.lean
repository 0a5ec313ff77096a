/-! ===== the law: its blocks, its loop ===== -/
section
variable {L N : Nat} {xs : Nat → Int32} {h h1 : AH} {σ : SG} {tr : Nat → Nat} {u n p : Nat} {K : AH → Nat → Nat → Nat → Int32 → Option (Int32 × AH)}
theorem srK (S : kd h 9000 = 30 ∧ ln h 9000 = L ∧ ai h 9000 = xs) (hL : L ≤ 4096) (k : Nat) (hk : p + k < L) : xia h 9000 (nI p + nI k) = some (xs (p + k)) := by
  obtain ⟨s1, s2, s3⟩ := S
  unfold xia
  rw [nI_add, if_pos ⟨Or.inr s1, by rw [s2]; exact nI_in hk (by omega)⟩, nI_clamp (by omega), s3]
theorem sr1 (S : kd h 9000 = 30 ∧ ln h 9000 = L ∧ ai h 9000 = xs) (hL : L ≤ 4096) (hp : p + 8 ≤ L) : xia h 9000 (nI p + 1) = some (xs (p + 1)) := srK S hL 1 (by omega)
theorem sr2 (S : kd h 9000 = 30 ∧ ln h 9000 = L ∧ ai h 9000 = xs) (hL : L ≤ 4096) (hp : p + 8 ≤ L) : xia h 9000 (nI p + 2) = some (xs (p + 2)) := srK S hL 2 (by omega)
theorem sr3 (S : kd h 9000 = 30 ∧ ln h 9000 = L ∧ ai h 9000 = xs) (hL : L ≤ 4096) (hp : p + 8 ≤ L) : xia h 9000 (nI p + 3) = some (xs (p + 3)) := srK S hL 3 (by omega)
theorem sr4 (S : kd h 9000 = 30 ∧ ln h 9000 = L ∧ ai h 9000 = xs) (hL : L ≤ 4096) (hp : p + 8 ≤ L) : xia h 9000 (nI p + 4) = some (xs (p + 4)) := srK S hL 4 (by omega)
theorem sr5 (S : kd h 9000 = 30 ∧ ln h 9000 = L ∧ ai h 9000 = xs) (hL : L ≤ 4096) (hp : p + 8 ≤ L) : xia h 9000 (nI p + 5) = some (xs (p + 5)) := srK S hL 5 (by omega)
theorem sr6 (S : kd h 9000 = 30 ∧ ln h 9000 = L ∧ ai h 9000 = xs) (hL : L ≤ 4096) (hp : p + 8 ≤ L) : xia h 9000 (nI p + 6) = some (xs (p + 6)) := srK S hL 6 (by omega)
theorem sr7 (S : kd h 9000 = 30 ∧ ln h 9000 = L ∧ ai h 9000 = xs) (hL : L ≤ 4096) (hp : p + 8 ≤ L) : xia h 9000 (nI p + 7) = some (xs (p + 7)) := srK S hL 7 (by omega)
theorem sr0 (S : kd h 9000 = 30 ∧ ln h 9000 = L ∧ ai h 9000 = xs) (hL : L ≤ 4096) (hp : p + 8 ≤ L) : xia h 9000 (nI p) = some (xs p) := by
  obtain ⟨s1, s2, s3⟩ := S
  unfold xia
  rw [if_pos ⟨Or.inr s1, by rw [s2]; exact nI_in (show p < L by omega) (by omega)⟩, nI_clamp (by omega), s3]
theorem nI_8 : nI p + 8 = nI (p + 8) := nI_add p 8
theorem lg_self {v : Int64} : lg_cmp v v = 0 := by unfold lg_cmp; simp [Int64.lt_irrefl]
theorem l_gauge (I : INV L xs h σ tr u n) (hN : 2000 < N) (hn : n ≤ 590) (hL : L ≤ 4096) (hp : p + 8 ≤ L) : ∃ h2 σ' tr' u', f_L_law_b264 N K h 9000 1 100 (nI p) = K h2 9000 1 100 (nI (p + 8)) ∧ INV L xs h2 σ' tr' u' (n + 1) := by
  have S := I.2.2.2.2.1
  obtain ⟨v, h1, h2, σ', tr', u', e1, e2, S1, I2⟩ := pub_gauge (a := xs (p + 1)) (b := xs (p + 2)) (c := xs (p + 3)) I (by omega)
  refine ⟨h2, σ', tr', u', ?_, I2⟩
  unfold f_L_law_b264 f_L_law_b2505
  rw [sr1 S hL hp, obs, sr2 S hL hp, obs, sr3 S hL hp, obs, gl3 (by rw [S.1]; decide) (by rw [kk1 I.1]; decide) (by rw [RS.kk I.2.1]; decide), obs, e1, obs]
  dsimp only
  rw [sr1 S1 hL hp, obs, sr2 S1 hL hp, obs, sr3 S1 hL hp, obs, e2, obs, if_pos rfl, nI_8]
theorem l_down (I : INV L xs h σ tr u n) (hN : 2000 < N) (hn : n ≤ 590) (hL : L ≤ 4096) (hp : p + 8 ≤ L) : ∃ h2 σ' tr' u', f_L_law_b307 N K h 9000 1 100 (nI p) = K h2 9000 1 100 (nI (p + 8)) ∧ INV L xs h2 σ' tr' u' (n + 1) := by
  have S := I.2.2.2.2.1
  obtain ⟨v, h1, h2, σ', tr', u', e1, e2, S1, I2⟩ := pub_down (a := xs (p + 1)) (b := xs (p + 2)) I
  refine ⟨h2, σ', tr', u', ?_, I2⟩
  unfold f_L_law_b307 f_L_law_b2505
  rw [sr1 S hL hp, obs, sr2 S hL hp, obs, e1, obs]
  dsimp only
  rw [sr1 S1 hL hp, obs, sr2 S1 hL hp, obs, e2, obs, if_pos rfl, nI_8]
theorem l_law (I : INV L xs h σ tr u n) (hN : 2000 < N) (hn : n ≤ 590) (hL : L ≤ 4096) (hp : p + 8 ≤ L) : ∃ h2 σ' tr' u', f_L_law_b340 N K h 9000 1 100 (nI p) = K h2 9000 1 100 (nI (p + 8)) ∧ INV L xs h2 σ' tr' u' (n + 1) := by
  have S := I.2.2.2.2.1
  obtain ⟨v, h1, h2, σ', tr', u', e1, e2, S1, I2⟩ := pub_law (a := xs (p + 1)) (b := xs (p + 2)) I
  refine ⟨h2, σ', tr', u', ?_, I2⟩
  unfold f_L_law_b340 f_L_law_b2505
  rw [sr1 S hL hp, obs, sr2 S hL hp, obs, e1, obs]
  dsimp only
  rw [sr1 S1 hL hp, obs, sr2 S1 hL hp, obs, e2, obs, if_pos rfl, nI_8]
theorem l_rain (I : INV L xs h σ tr u n) (hN : 2000 < N) (hn : n ≤ 590) (hL : L ≤ 4096) (hp : p + 8 ≤ L) : ∃ h2 σ' tr' u', f_L_law_b373 N K h 9000 1 100 (nI p) = K h2 9000 1 100 (nI (p + 8)) ∧ INV L xs h2 σ' tr' u' (n + 1) := by
  have S := I.2.2.2.2.1
  obtain ⟨v, h1, h2, σ', tr', u', e1, e2, S1, I2⟩ := pub_rain (a := xs (p + 1)) (b := xs (p + 2)) (c := xs (p + 3)) (d := xs (p + 4)) I
  refine ⟨h2, σ', tr', u', ?_, I2⟩
  unfold f_L_law_b373 f_L_law_b2505
  rw [sr1 S hL hp, obs, sr2 S hL hp, obs, sr3 S hL hp, obs, sr4 S hL hp, obs, e1, obs]
  dsimp only
  rw [sr1 S1 hL hp, obs, sr2 S1 hL hp, obs, sr3 S1 hL hp, obs, sr4 S1 hL hp, obs, e2, obs, if_pos rfl, nI_8]
theorem l_green (I : INV L xs h σ tr u n) (hN : 2000 < N) (hn : n ≤ 590) (hL : L ≤ 4096) (hp : p + 8 ≤ L) : ∃ h2 σ' tr' u', f_L_law_b426 N K h 9000 1 100 (nI p) = K h2 9000 1 100 (nI (p + 8)) ∧ INV L xs h2 σ' tr' u' (n + 1) := by
  have S := I.2.2.2.2.1
  obtain ⟨v, h1, h2, σ', tr', u', e1, e2, S1, I2⟩ := pub_green (a := xs (p + 1)) (b := xs (p + 2)) (c := xs (p + 3)) (d := xs (p + 4)) I
  refine ⟨h2, σ', tr', u', ?_, I2⟩
  unfold f_L_law_b426 f_L_law_b2505
  rw [sr1 S hL hp, obs, sr2 S hL hp, obs, sr3 S hL hp, obs, sr4 S hL hp, obs, e1, obs]
  dsimp only
  rw [sr1 S1 hL hp, obs, sr2 S1 hL hp, obs, sr3 S1 hL hp, obs, sr4 S1 hL hp, obs, e2, obs, if_pos rfl, nI_8]
theorem l_seen (I : INV L xs h σ tr u n) (hN : 2000 < N) (hn : n ≤ 590) (hL : L ≤ 4096) (hp : p + 8 ≤ L) : ∃ h2 σ' tr' u', f_L_law_b479 N K h 9000 1 100 (nI p) = K h2 9000 1 100 (nI (p + 8)) ∧ INV L xs h2 σ' tr' u' (n + 1) := by
  have S := I.2.2.2.2.1
  obtain ⟨v, h2, σ', e1, e2, I2⟩ := pub_seen (N := N) (a := xs (p + 1)) (b := xs (p + 2)) (c := xs (p + 3)) (d := xs (p + 4)) I hN
  refine ⟨h2, σ', tr, u, ?_, I2.up (by omega)⟩
  unfold f_L_law_b479 f_L_law_b2505
  rw [sr1 S hL hp, obs, sr2 S hL hp, obs, sr3 S hL hp, obs, sr4 S hL hp, obs, e1, obs, obs, obs, obs, obs, e2, obs, if_pos rfl, nI_8]
theorem l_lay (I : INV L xs h σ tr u n) (hN : 2000 < N) (hn : n ≤ 590) (hL : L ≤ 4096) (hp : p + 8 ≤ L) : ∃ h2 σ' tr' u', f_L_law_b532 N K h 9000 1 100 (nI p) = K h2 9000 1 100 (nI (p + 8)) ∧ INV L xs h2 σ' tr' u' (n + 1) := by
  have S := I.2.2.2.2.1
  obtain ⟨v, h1, h2, σ', tr', u', e1, e2, S1, I2⟩ := pub_lay (N := N) (a := xs (p + 1)) (b := xs (p + 2)) (c := xs (p + 3)) (d := xs (p + 4)) (e := xs (p + 5)) I hN
  refine ⟨h2, σ', tr', u', ?_, I2⟩
  unfold f_L_law_b532 f_L_law_b2505
  rw [sr1 S hL hp, obs, sr2 S hL hp, obs, sr3 S hL hp, obs, sr4 S hL hp, obs, sr5 S hL hp, obs, e1, obs]
  dsimp only
  rw [sr1 S1 hL hp, obs, sr2 S1 hL hp, obs, sr3 S1 hL hp, obs, sr4 S1 hL hp, obs, sr5 S1 hL hp, obs, e2, obs, if_pos rfl, nI_8]
theorem l_told (I : INV L xs h σ tr u n) (hN : 2000 < N) (hn : n ≤ 590) (hL : L ≤ 4096) (hp : p + 8 ≤ L) : ∃ h2 σ' tr' u', f_L_law_b595 N K h 9000 1 100 (nI p) = K h2 9000 1 100 (nI (p + 8)) ∧ INV L xs h2 σ' tr' u' (n + 1) := by
  have S := I.2.2.2.2.1
  obtain ⟨v, h2, σ', e1, e2, I2⟩ := pub_told (N := N) (a := xs (p + 1)) (b := xs (p + 2)) (c := xs (p + 3)) (d := xs (p + 4)) I hN
  refine ⟨h2, σ', tr, u, ?_, I2.up (by omega)⟩
  unfold f_L_law_b595 f_L_law_b2505
  rw [sr1 S hL hp, obs, sr2 S hL hp, obs, sr3 S hL hp, obs, sr4 S hL hp, obs, e1, obs, obs, obs, obs, obs, e2, obs, if_pos rfl, nI_8]
theorem l_filled (I : INV L xs h σ tr u n) (hN : 2000 < N) (hn : n ≤ 590) (hL : L ≤ 4096) (hp : p + 8 ≤ L) : ∃ h2 σ' tr' u', f_L_law_b648 N K h 9000 1 100 (nI p) = K h2 9000 1 100 (nI (p + 8)) ∧ INV L xs h2 σ' tr' u' (n + 1) := by
  have S := I.2.2.2.2.1
  obtain ⟨v, h2, σ', e1, e2, I2⟩ := pub_filled (N := N) (a := xs (p + 1)) (b := xs (p + 2)) (c := xs (p + 3)) (d := xs (p + 4)) I hN
  refine ⟨h2, σ', tr, u, ?_, I2.up (by omega)⟩
  unfold f_L_law_b648 f_L_law_b2505
  rw [sr1 S hL hp, obs, sr2 S hL hp, obs, sr3 S hL hp, obs, sr4 S hL hp, obs, e1, obs, obs, obs, obs, obs, e2, obs, if_pos rfl, nI_8]
theorem l_span (I : INV L xs h σ tr u n) (hN : 2000 < N) (hn : n ≤ 590) (hL : L ≤ 4096) (hp : p + 8 ≤ L) : ∃ h2 σ' tr' u', f_L_law_b701 N K h 9000 1 100 (nI p) = K h2 9000 1 100 (nI (p + 8)) ∧ INV L xs h2 σ' tr' u' (n + 1) := by
  have S := I.2.2.2.2.1
  obtain ⟨v, e1, e2⟩ := pub_span (N := N) (a := xs (p + 1)) (b := xs (p + 2)) (c := xs (p + 3)) (d := xs (p + 4)) I hN
  refine ⟨h, σ, tr, u, ?_, I.up (by omega)⟩
  unfold f_L_law_b701 f_L_law_b2505
  rw [sr1 S hL hp, obs, sr2 S hL hp, obs, sr3 S hL hp, obs, sr4 S hL hp, obs, e1, obs, obs, obs, obs, obs, e2, obs, if_pos rfl, nI_8]
theorem l_odd (I : INV L xs h σ tr u n) (hN : 2000 < N) (hn : n ≤ 590) (hL : L ≤ 4096) (hp : p + 8 ≤ L) : ∃ h2 σ' tr' u', f_L_law_b754 N K h 9000 1 100 (nI p) = K h2 9000 1 100 (nI (p + 8)) ∧ INV L xs h2 σ' tr' u' (n + 1) := by
  have S := I.2.2.2.2.1
  obtain ⟨v, e1, e2⟩ := pub_odd (N := N) (a := xs (p + 1)) (b := xs (p + 2)) I hN
  refine ⟨h, σ, tr, u, ?_, I.up (by omega)⟩
  unfold f_L_law_b754 f_L_law_b2505
  rw [sr1 S hL hp, obs, sr2 S hL hp, obs, e1, obs, obs, obs, e2, obs, if_pos rfl, nI_8]
theorem l_feed (I : INV L xs h σ tr u n) (hN : 2000 < N) (hn : n ≤ 590) (hL : L ≤ 4096) (hp : p + 8 ≤ L) : ∃ h2 σ' tr' u', f_L_law_b787 N K h 9000 1 100 (nI p) = K h2 9000 1 100 (nI (p + 8)) ∧ INV L xs h2 σ' tr' u' (n + 1) := by
  have S := I.2.2.2.2.1
  obtain ⟨v, h1, h2, σ', tr', u', e1, e2, S1, I2⟩ := pub_feed (N := N) (a := xs (p + 1)) (b := xs (p + 2)) I hN
  refine ⟨h2, σ', tr', u', ?_, I2⟩
  unfold f_L_law_b787 f_L_law_b2505
  rw [sr1 S hL hp, obs, sr2 S hL hp, obs, e1, obs]
  dsimp only
  rw [sr1 S1 hL hp, obs, sr2 S1 hL hp, obs, e2, obs, if_pos rfl, nI_8]
theorem l_term (I : INV L xs h σ tr u n) (hN : 2000 < N) (hn : n ≤ 590) (hL : L ≤ 4096) (hp : p + 8 ≤ L) : ∃ h2 σ' tr' u', f_L_law_b820 N K h 9000 1 100 (nI p) = K h2 9000 1 100 (nI (p + 8)) ∧ INV L xs h2 σ' tr' u' (n + 1) := by
  have S := I.2.2.2.2.1
  obtain ⟨v, h1, h2, σ', tr', u', e1, e2, S1, I2⟩ := pub_term (N := N)  I hN (by omega)
  refine ⟨h2, σ', tr', u', ?_, I2⟩
  unfold f_L_law_b820 f_L_law_b2505
  rw [gl3 (by rw [S.1]; decide) (by rw [kk1 I.1]; decide) (by rw [RS.kk I.2.1]; decide), obs, e1, obs]
  dsimp only
  rw [e2, obs, if_pos rfl, nI_8]
theorem l_pay (I : INV L xs h σ tr u n) (hN : 2000 < N) (hn : n ≤ 590) (hL : L ≤ 4096) (hp : p + 8 ≤ L) : ∃ h2 σ' tr' u', f_L_law_b833 N K h 9000 1 100 (nI p) = K h2 9000 1 100 (nI (p + 8)) ∧ INV L xs h2 σ' tr' u' (n + 1) := by
  have S := I.2.2.2.2.1
  obtain ⟨v, h1, e1, e2, I1⟩ := pub_pay (N := N) (a := xs (p + 1)) (b := xs (p + 2)) (c := xs (p + 3)) (d := xs (p + 4)) (e := xs (p + 5)) I hN
  have S1 := I1.2.2.2.2.1
  refine ⟨h1, σ, tr, u, ?_, I1.up (by omega)⟩
  unfold f_L_law_b833 f_L_law_b2505
  rw [sr1 S hL hp, obs, sr2 S hL hp, obs, sr3 S hL hp, obs, sr4 S hL hp, obs, sr5 S hL hp, obs, e1, obs]
  dsimp only
  rw [sr1 S1 hL hp, obs, sr2 S1 hL hp, obs, sr3 S1 hL hp, obs, sr4 S1 hL hp, obs, sr5 S1 hL hp, obs, e2, obs, if_pos rfl, nI_8]
theorem l_farm (I : INV L xs h σ tr u n) (hN : 2000 < N) (hn : n ≤ 590) (hL : L ≤ 4096) (hp : p + 8 ≤ L) : ∃ h2 σ' tr' u', f_L_law_b896 N K h 9000 1 100 (nI p) = K h2 9000 1 100 (nI (p + 8)) ∧ INV L xs h2 σ' tr' u' (n + 1) := by
  have S := I.2.2.2.2.1
  obtain ⟨v, h1, h2, σ', tr', u', e1, e2, S1, I2⟩ := pub_farm (a := xs (p + 1)) (b := xs (p + 2)) (c := xs (p + 3)) (d := xs (p + 4)) I (by omega)
  refine ⟨h2, σ', tr', u', ?_, I2⟩
  unfold f_L_law_b896 f_L_law_b2505
  rw [sr1 S hL hp, obs, sr2 S hL hp, obs, sr3 S hL hp, obs, sr4 S hL hp, obs, gl3 (by rw [S.1]; decide) (by rw [kk1 I.1]; decide) (by rw [RS.kk I.2.1]; decide), obs, e1, obs]
  dsimp only
  rw [sr1 S1 hL hp, obs, sr2 S1 hL hp, obs, sr3 S1 hL hp, obs, sr4 S1 hL hp, obs, e2, obs, if_pos rfl, nI_8]
theorem l_plant (I : INV L xs h σ tr u n) (hN : 2000 < N) (hn : n ≤ 590) (hL : L ≤ 4096) (hp : p + 8 ≤ L) : ∃ h2 σ' tr' u', f_L_law_b949 N K h 9000 1 100 (nI p) = K h2 9000 1 100 (nI (p + 8)) ∧ INV L xs h2 σ' tr' u' (n + 1) := by
  have S := I.2.2.2.2.1
  obtain ⟨v, h1, h2, σ', tr', u', e1, e2, S1, I2⟩ := pub_plant (a := xs (p + 1)) (b := xs (p + 2)) I
  refine ⟨h2, σ', tr', u', ?_, I2⟩
  unfold f_L_law_b949 f_L_law_b2505
  rw [sr1 S hL hp, obs, sr2 S hL hp, obs, e1, obs]
  dsimp only
  rw [sr1 S1 hL hp, obs, sr2 S1 hL hp, obs, e2, obs, if_pos rfl, nI_8]
theorem l_enroll (I : INV L xs h σ tr u n) (hN : 2000 < N) (hn : n ≤ 590) (hL : L ≤ 4096) (hp : p + 8 ≤ L) : ∃ h2 σ' tr' u', f_L_law_b982 N K h 9000 1 100 (nI p) = K h2 9000 1 100 (nI (p + 8)) ∧ INV L xs h2 σ' tr' u' (n + 1) := by
  have S := I.2.2.2.2.1
  obtain ⟨v, h1, h2, σ', tr', u', e1, e2, S1, I2⟩ := pub_enroll (N := N) (a := xs (p + 1)) (b := xs (p + 2)) (c := xs (p + 3)) I hN
  refine ⟨h2, σ', tr', u', ?_, I2⟩
  unfold f_L_law_b982 f_L_law_b2505
  rw [sr1 S hL hp, obs, sr2 S hL hp, obs, sr3 S hL hp, obs, e1, obs]
  dsimp only
  rw [sr1 S1 hL hp, obs, sr2 S1 hL hp, obs, sr3 S1 hL hp, obs, e2, obs, if_pos rfl, nI_8]
theorem l_lapse (I : INV L xs h σ tr u n) (hN : 2000 < N) (hn : n ≤ 590) (hL : L ≤ 4096) (hp : p + 8 ≤ L) : ∃ h2 σ' tr' u', f_L_law_b1025 N K h 9000 1 100 (nI p) = K h2 9000 1 100 (nI (p + 8)) ∧ INV L xs h2 σ' tr' u' (n + 1) := by
  have S := I.2.2.2.2.1
  obtain ⟨v, h1, h2, σ', tr', u', e1, e2, S1, I2⟩ := pub_lapse (N := N) (a := xs (p + 1)) (b := xs (p + 2)) I hN
  refine ⟨h2, σ', tr', u', ?_, I2⟩
  unfold f_L_law_b1025 f_L_law_b2505
  rw [sr1 S hL hp, obs, sr2 S hL hp, obs, e1, obs]
  dsimp only
  rw [sr1 S1 hL hp, obs, sr2 S1 hL hp, obs, e2, obs, if_pos rfl, nI_8]
theorem l_of (I : INV L xs h σ tr u n) (hN : 2000 < N) (hn : n ≤ 590) (hL : L ≤ 4096) (hp : p + 8 ≤ L) : ∃ h2 σ' tr' u', f_L_law_b1058 N K h 9000 1 100 (nI p) = K h2 9000 1 100 (nI (p + 8)) ∧ INV L xs h2 σ' tr' u' (n + 1) := by
  have S := I.2.2.2.2.1
  obtain ⟨v, h1, e1, e2, I1⟩ := pub_of (N := N) (a := xs (p + 1)) (b := xs (p + 2)) (c := xs (p + 3)) I hN
  have S1 := I1.2.2.2.2.1
  refine ⟨h1, σ, tr, u, ?_, I1.up (by omega)⟩
  unfold f_L_law_b1058 f_L_law_b2505
  rw [sr1 S hL hp, obs, sr2 S hL hp, obs, sr3 S hL hp, obs, e1, obs]
  dsimp only
  rw [sr1 S1 hL hp, obs, sr2 S1 hL hp, obs, sr3 S1 hL hp, obs, e2, obs, if_pos rfl, nI_8]
theorem l_due (I : INV L xs h σ tr u n) (hN : 2000 < N) (hn : n ≤ 590) (hL : L ≤ 4096) (hp : p + 8 ≤ L) : ∃ h2 σ' tr' u', f_L_law_b1101 N K h 9000 1 100 (nI p) = K h2 9000 1 100 (nI (p + 8)) ∧ INV L xs h2 σ' tr' u' (n + 1) := by
  have S := I.2.2.2.2.1
  obtain ⟨v, h1, h2, σ', tr', u', e1, e2, S1, I2⟩ := pub_due (N := N) (a := xs (p + 1)) (b := xs (p + 2)) (c := xs (p + 3)) I hN
  refine ⟨h2, σ', tr', u', ?_, I2⟩
  unfold f_L_law_b1101 f_L_law_b2505
  rw [sr1 S hL hp, obs, sr2 S hL hp, obs, sr3 S hL hp, obs, e1, obs]
  dsimp only
  rw [sr1 S1 hL hp, obs, sr2 S1 hL hp, obs, sr3 S1 hL hp, obs, e2, obs, if_pos rfl, nI_8]
theorem l_line (I : INV L xs h σ tr u n) (hN : 2000 < N) (hn : n ≤ 590) (hL : L ≤ 4096) (hp : p + 8 ≤ L) : ∃ h2 σ' tr' u', f_L_law_b1144 N K h 9000 1 100 (nI p) = K h2 9000 1 100 (nI (p + 8)) ∧ INV L xs h2 σ' tr' u' (n + 1) := by
  have S := I.2.2.2.2.1
  obtain ⟨v, h1, e1, e2, I1⟩ := pub_line (N := N) (a := xs (p + 1)) (b := xs (p + 2)) (c := xs (p + 3)) I hN
  have S1 := I1.2.2.2.2.1
  refine ⟨h1, σ, tr, u, ?_, I1.up (by omega)⟩
  unfold f_L_law_b1144 f_L_law_b2505
  rw [sr1 S hL hp, obs, sr2 S hL hp, obs, sr3 S hL hp, obs, e1, obs]
  dsimp only
  rw [sr1 S1 hL hp, obs, sr2 S1 hL hp, obs, sr3 S1 hL hp, obs, e2, obs, if_pos rfl, nI_8]
theorem l_look (I : INV L xs h σ tr u n) (hN : 2000 < N) (hn : n ≤ 590) (hL : L ≤ 4096) (hp : p + 8 ≤ L) : ∃ h2 σ' tr' u', f_L_law_b1187 N K h 9000 1 100 (nI p) = K h2 9000 1 100 (nI (p + 8)) ∧ INV L xs h2 σ' tr' u' (n + 1) := by
  have S := I.2.2.2.2.1
  obtain ⟨v, h1, h2, σ', tr', u', e1, e2, S1, I2⟩ := pub_look (N := N) (a := xs (p + 1)) (b := xs (p + 2)) (c := xs (p + 3)) (d := xs (p + 4)) I hN
  refine ⟨h2, σ', tr', u', ?_, I2⟩
  unfold f_L_law_b1187 f_L_law_b2505
  rw [sr1 S hL hp, obs, sr2 S hL hp, obs, sr3 S hL hp, obs, sr4 S hL hp, obs, e1, obs]
  dsimp only
  rw [sr1 S1 hL hp, obs, sr2 S1 hL hp, obs, sr3 S1 hL hp, obs, sr4 S1 hL hp, obs, e2, obs, if_pos rfl, nI_8]
theorem l_basis (I : INV L xs h σ tr u n) (hN : 2000 < N) (hn : n ≤ 590) (hL : L ≤ 4096) (hp : p + 8 ≤ L) : ∃ h2 σ' tr' u', f_L_law_b1240 N K h 9000 1 100 (nI p) = K h2 9000 1 100 (nI (p + 8)) ∧ INV L xs h2 σ' tr' u' (n + 1) := by
  have S := I.2.2.2.2.1
  obtain ⟨v, h1, e1, e2, I1⟩ := pub_basis (N := N) (a := xs (p + 1)) (b := xs (p + 2)) (c := xs (p + 3)) I hN
  have S1 := I1.2.2.2.2.1
  refine ⟨h1, σ, tr, u, ?_, I1.up (by omega)⟩
  unfold f_L_law_b1240 f_L_law_b2505
  rw [sr1 S hL hp, obs, sr2 S hL hp, obs, sr3 S hL hp, obs, e1, obs]
  dsimp only
  rw [sr1 S1 hL hp, obs, sr2 S1 hL hp, obs, sr3 S1 hL hp, obs, e2, obs, if_pos lg_self, nI_8]
theorem l_site (I : INV L xs h σ tr u n) (hN : 2000 < N) (hn : n ≤ 590) (hL : L ≤ 4096) (hp : p + 8 ≤ L) : ∃ h2 σ' tr' u', f_L_law_b1284 N K h 9000 1 100 (nI p) = K h2 9000 1 100 (nI (p + 8)) ∧ INV L xs h2 σ' tr' u' (n + 1) := by
  have S := I.2.2.2.2.1
  obtain ⟨v, h1, h2, σ', tr', u', e1, e2, S1, I2⟩ := pub_site (a := xs (p + 1)) (b := xs (p + 2)) I (by omega)
  refine ⟨h2, σ', tr', u', ?_, I2⟩
  unfold f_L_law_b1284 f_L_law_b2505
  rw [sr1 S hL hp, obs, sr2 S hL hp, obs, gl3 (by rw [S.1]; decide) (by rw [kk1 I.1]; decide) (by rw [RS.kk I.2.1]; decide), obs, e1, obs]
  dsimp only
  rw [sr1 S1 hL hp, obs, sr2 S1 hL hp, obs, e2, obs, if_pos rfl, nI_8]
theorem l_best (I : INV L xs h σ tr u n) (hN : 2000 < N) (hn : n ≤ 590) (hL : L ≤ 4096) (hp : p + 8 ≤ L) : ∃ h2 σ' tr' u', f_L_law_b1317 N K h 9000 1 100 (nI p) = K h2 9000 1 100 (nI (p + 8)) ∧ INV L xs h2 σ' tr' u' (n + 1) := by
  have S := I.2.2.2.2.1
  obtain ⟨v, h1, e1, e2, I1⟩ := pub_best (N := N) (a := xs (p + 1)) (b := xs (p + 2)) I hN
  have S1 := I1.2.2.2.2.1
  refine ⟨h1, σ, tr, u, ?_, I1.up (by omega)⟩
  unfold f_L_law_b1317 f_L_law_b2505
  rw [sr1 S hL hp, obs, sr2 S hL hp, obs, e1, obs]
  dsimp only
  rw [sr1 S1 hL hp, obs, sr2 S1 hL hp, obs, e2, obs, if_pos rfl, nI_8]
theorem l_mean (I : INV L xs h σ tr u n) (hN : 2000 < N) (hn : n ≤ 590) (hL : L ≤ 4096) (hp : p + 8 ≤ L) : ∃ h2 σ' tr' u', f_L_law_b1350 N K h 9000 1 100 (nI p) = K h2 9000 1 100 (nI (p + 8)) ∧ INV L xs h2 σ' tr' u' (n + 1) := by
  have S := I.2.2.2.2.1
  obtain ⟨v, h1, e1, e2, I1⟩ := pub_mean (N := N) (a := xs (p + 1)) (b := xs (p + 2)) (c := xs (p + 3)) (d := xs (p + 4)) (e := xs (p + 5)) I hN
  have S1 := I1.2.2.2.2.1
  refine ⟨h1, σ, tr, u, ?_, I1.up (by omega)⟩
  unfold f_L_law_b1350 f_L_law_b2505
  rw [sr1 S hL hp, obs, sr2 S hL hp, obs, sr3 S hL hp, obs, sr4 S hL hp, obs, sr5 S hL hp, obs, e1, obs]
  dsimp only
  rw [sr1 S1 hL hp, obs, sr2 S1 hL hp, obs, sr3 S1 hL hp, obs, sr4 S1 hL hp, obs, sr5 S1 hL hp, obs, e2, obs, if_pos lg_self, nI_8]
theorem l_price (I : INV L xs h σ tr u n) (hN : 2000 < N) (hn : n ≤ 590) (hL : L ≤ 4096) (hp : p + 8 ≤ L) : ∃ h2 σ' tr' u', f_L_law_b1414 N K h 9000 1 100 (nI p) = K h2 9000 1 100 (nI (p + 8)) ∧ INV L xs h2 σ' tr' u' (n + 1) := by
  have S := I.2.2.2.2.1
  obtain ⟨v, h1, e1, e2, I1⟩ := pub_price (N := N) (a := xs (p + 1)) (b := xs (p + 2)) (c := xs (p + 3)) (d := xs (p + 4)) (e := xs (p + 5)) I hN
  have S1 := I1.2.2.2.2.1
  refine ⟨h1, σ, tr, u, ?_, I1.up (by omega)⟩
  unfold f_L_law_b1414 f_L_law_b2505
  rw [sr1 S hL hp, obs, sr2 S hL hp, obs, sr3 S hL hp, obs, sr4 S hL hp, obs, sr5 S hL hp, obs, e1, obs]
  dsimp only
  rw [sr1 S1 hL hp, obs, sr2 S1 hL hp, obs, sr3 S1 hL hp, obs, sr4 S1 hL hp, obs, sr5 S1 hL hp, obs, e2, obs, if_pos rfl, nI_8]
theorem l_trend (I : INV L xs h σ tr u n) (hN : 2000 < N) (hn : n ≤ 590) (hL : L ≤ 4096) (hp : p + 8 ≤ L) : ∃ h2 σ' tr' u', f_L_law_b1477 N K h 9000 1 100 (nI p) = K h2 9000 1 100 (nI (p + 8)) ∧ INV L xs h2 σ' tr' u' (n + 1) := by
  have S := I.2.2.2.2.1
  obtain ⟨v, h1, e1, e2, I1⟩ := pub_trend (N := N) (a := xs (p + 1)) (b := xs (p + 2)) (c := xs (p + 3)) (d := xs (p + 4)) (e := xs (p + 5)) I hN
  have S1 := I1.2.2.2.2.1
  refine ⟨h1, σ, tr, u, ?_, I1.up (by omega)⟩
  unfold f_L_law_b1477 f_L_law_b2505
  rw [sr1 S hL hp, obs, sr2 S hL hp, obs, sr3 S hL hp, obs, sr4 S hL hp, obs, sr5 S hL hp, obs, e1, obs]
  dsimp only
  rw [sr1 S1 hL hp, obs, sr2 S1 hL hp, obs, sr3 S1 hL hp, obs, sr4 S1 hL hp, obs, sr5 S1 hL hp, obs, e2, obs, if_pos lg_self, nI_8]
theorem l_beside (I : INV L xs h σ tr u n) (hN : 2000 < N) (hn : n ≤ 590) (hL : L ≤ 4096) (hp : p + 8 ≤ L) : ∃ h2 σ' tr' u', f_L_law_b1541 N K h 9000 1 100 (nI p) = K h2 9000 1 100 (nI (p + 8)) ∧ INV L xs h2 σ' tr' u' (n + 1) := by
  have S := I.2.2.2.2.1
  obtain ⟨v, h1, e1, e2, I1⟩ := pub_beside (N := N) (a := xs (p + 1)) (b := xs (p + 2)) (c := xs (p + 3)) (d := xs (p + 4)) (e := xs (p + 5)) (f := xs (p + 6)) I hN
  have S1 := I1.2.2.2.2.1
  refine ⟨h1, σ, tr, u, ?_, I1.up (by omega)⟩
  unfold f_L_law_b1541 f_L_law_b2505
  rw [sr1 S hL hp, obs, sr2 S hL hp, obs, sr3 S hL hp, obs, sr4 S hL hp, obs, sr5 S hL hp, obs, sr6 S hL hp, obs, e1, obs]
  dsimp only
  rw [sr1 S1 hL hp, obs, sr2 S1 hL hp, obs, sr3 S1 hL hp, obs, sr4 S1 hL hp, obs, sr5 S1 hL hp, obs, sr6 S1 hL hp, obs, e2, obs, if_pos rfl, nI_8]
theorem l_foretold (I : INV L xs h σ tr u n) (hN : 2000 < N) (hn : n ≤ 590) (hL : L ≤ 4096) (hp : p + 8 ≤ L) : ∃ h2 σ' tr' u', f_L_law_b1616 N K h 9000 1 100 (nI p) = K h2 9000 1 100 (nI (p + 8)) ∧ INV L xs h2 σ' tr' u' (n + 1) := by
  have S := I.2.2.2.2.1
  obtain ⟨v, h1, h2, σ', tr', u', e1, e2, S1, I2⟩ := pub_foretold (N := N) (a := xs (p + 1)) (b := xs (p + 2)) (c := xs (p + 3)) (d := xs (p + 4)) (e := xs (p + 5)) (f := xs (p + 6)) (v := xs (p + 7)) I hN
  refine ⟨h2, σ', tr', u', ?_, I2⟩
  unfold f_L_law_b1616 f_L_law_b2505
  rw [sr1 S hL hp, obs, sr2 S hL hp, obs, sr3 S hL hp, obs, sr4 S hL hp, obs, sr5 S hL hp, obs, sr6 S hL hp, obs, sr7 S hL hp, obs, e1, obs]
  dsimp only
  rw [sr1 S1 hL hp, obs, sr2 S1 hL hp, obs, sr3 S1 hL hp, obs, sr4 S1 hL hp, obs, sr5 S1 hL hp, obs, sr6 S1 hL hp, obs, sr7 S1 hL hp, obs, e2, obs, if_pos rfl, nI_8]
theorem l_income (I : INV L xs h σ tr u n) (hN : 2000 < N) (hn : n ≤ 590) (hL : L ≤ 4096) (hp : p + 8 ≤ L) : ∃ h2 σ' tr' u', f_L_law_b1703 N K h 9000 1 100 (nI p) = K h2 9000 1 100 (nI (p + 8)) ∧ INV L xs h2 σ' tr' u' (n + 1) := by
  have S := I.2.2.2.2.1
  obtain ⟨v, h1, e1, e2, I1⟩ := pub_income (N := N) (a := xs (p + 1)) I hN
  have S1 := I1.2.2.2.2.1
  refine ⟨h1, σ, tr, u, ?_, I1.up (by omega)⟩
  unfold f_L_law_b1703 f_L_law_b2505
  rw [sr1 S hL hp, obs, e1, obs]
  dsimp only
  rw [sr1 S1 hL hp, obs, e2, obs, if_pos rfl, nI_8]
theorem l_total (I : INV L xs h σ tr u n) (hN : 2000 < N) (hn : n ≤ 590) (hL : L ≤ 4096) (hp : p + 8 ≤ L) : ∃ h2 σ' tr' u', f_L_law_b1726 N K h 9000 1 100 (nI p) = K h2 9000 1 100 (nI (p + 8)) ∧ INV L xs h2 σ' tr' u' (n + 1) := by
  have S := I.2.2.2.2.1
  obtain ⟨v, h1, e1, e2, I1⟩ := pub_total (N := N) (a := xs (p + 1)) (b := xs (p + 2)) I hN
  have S1 := I1.2.2.2.2.1
  refine ⟨h1, σ, tr, u, ?_, I1.up (by omega)⟩
  unfold f_L_law_b1726 f_L_law_b2505
  rw [sr1 S hL hp, obs, sr2 S hL hp, obs, e1, obs]
  dsimp only
  rw [sr1 S1 hL hp, obs, sr2 S1 hL hp, obs, e2, obs, if_pos rfl, nI_8]
theorem l_layer (I : INV L xs h σ tr u n) (hN : 2000 < N) (hn : n ≤ 590) (hL : L ≤ 4096) (hp : p + 8 ≤ L) : ∃ h2 σ' tr' u', f_L_law_b1759 N K h 9000 1 100 (nI p) = K h2 9000 1 100 (nI (p + 8)) ∧ INV L xs h2 σ' tr' u' (n + 1) := by
  have S := I.2.2.2.2.1
  obtain ⟨v, h1, e1, e2, I1⟩ := pub_layer (N := N) (a := xs (p + 1)) (b := xs (p + 2)) (c := xs (p + 3)) (d := xs (p + 4)) I hN
  have S1 := I1.2.2.2.2.1
  refine ⟨h1, σ, tr, u, ?_, I1.up (by omega)⟩
  unfold f_L_law_b1759 f_L_law_b2505
  rw [sr1 S hL hp, obs, sr2 S hL hp, obs, sr3 S hL hp, obs, sr4 S hL hp, obs, e1, obs]
  dsimp only
  rw [sr1 S1 hL hp, obs, sr2 S1 hL hp, obs, sr3 S1 hL hp, obs, sr4 S1 hL hp, obs, e2, obs, if_pos rfl, nI_8]
theorem l_lots (I : INV L xs h σ tr u n) (hN : 2000 < N) (hn : n ≤ 590) (hL : L ≤ 4096) (hp : p + 8 ≤ L) : ∃ h2 σ' tr' u', f_L_law_b1812 N K h 9000 1 100 (nI p) = K h2 9000 1 100 (nI (p + 8)) ∧ INV L xs h2 σ' tr' u' (n + 1) := by
  have S := I.2.2.2.2.1
  obtain ⟨v, h1, h2, σ', tr', u', e1, e2, S1, I2⟩ := pub_lots (a := xs (p + 1)) I
  refine ⟨h2, σ', tr', u', ?_, I2⟩
  unfold f_L_law_b1812 f_L_law_b2505
  rw [sr1 S hL hp, obs, e1, obs]
  dsimp only
  rw [sr1 S1 hL hp, obs, e2, obs, if_pos rfl, nI_8]
theorem l_lasts (I : INV L xs h σ tr u n) (hN : 2000 < N) (hn : n ≤ 590) (hL : L ≤ 4096) (hp : p + 8 ≤ L) : ∃ h2 σ' tr' u', f_L_law_b1835 N K h 9000 1 100 (nI p) = K h2 9000 1 100 (nI (p + 8)) ∧ INV L xs h2 σ' tr' u' (n + 1) := by
  have S := I.2.2.2.2.1
  obtain ⟨v, h1, h2, σ', tr', u', e1, e2, S1, I2⟩ := pub_lasts (N := N) (a := xs (p + 1)) (b := xs (p + 2)) (c := xs (p + 3)) (d := xs (p + 4)) I hN
  refine ⟨h2, σ', tr', u', ?_, I2⟩
  unfold f_L_law_b1835 f_L_law_b2505
  rw [sr1 S hL hp, obs, sr2 S hL hp, obs, sr3 S hL hp, obs, sr4 S hL hp, obs, e1, obs]
  dsimp only
  rw [sr1 S1 hL hp, obs, sr2 S1 hL hp, obs, sr3 S1 hL hp, obs, sr4 S1 hL hp, obs, e2, obs, if_pos rfl, nI_8]
theorem l_settle (I : INV L xs h σ tr u n) (hN : 2000 < N) (hn : n ≤ 590) (hL : L ≤ 4096) (hp : p + 8 ≤ L) : ∃ h2 σ' tr' u', f_L_law_b1888 N K h 9000 1 100 (nI p) = K h2 9000 1 100 (nI (p + 8)) ∧ INV L xs h2 σ' tr' u' (n + 1) := by
  have S := I.2.2.2.2.1
  obtain ⟨v, h1, h2, σ', tr', u', e1, e2, S1, I2⟩ := pub_settle (N := N) (a := xs (p + 1)) I hN (by omega)
  refine ⟨h2, σ', tr', u', ?_, I2⟩
  unfold f_L_law_b1888 f_L_law_b2505
  rw [sr1 S hL hp, obs, e1, obs]
  dsimp only
  rw [sr1 S1 hL hp, obs, e2, obs, if_pos rfl, nI_8]
theorem l_payment (I : INV L xs h σ tr u n) (hN : 2000 < N) (hn : n ≤ 590) (hL : L ≤ 4096) (hp : p + 8 ≤ L) : ∃ h2 σ' tr' u', f_L_law_b1911 N K h 9000 1 100 (nI p) = K h2 9000 1 100 (nI (p + 8)) ∧ INV L xs h2 σ' tr' u' (n + 1) := by
  have S := I.2.2.2.2.1
  obtain ⟨v, e1, e2⟩ := pub_payment (N := N) (a := xs (p + 1)) (b := xs (p + 2)) I hN
  refine ⟨h, σ, tr, u, ?_, I.up (by omega)⟩
  unfold f_L_law_b1911 f_L_law_b2505
  rw [sr1 S hL hp, obs, sr2 S hL hp, obs, e1, obs, obs, obs, e2, obs, if_pos rfl, nI_8]
theorem l_fund (I : INV L xs h σ tr u n) (hN : 2000 < N) (hn : n ≤ 590) (hL : L ≤ 4096) (hp : p + 8 ≤ L) : ∃ h2 σ' tr' u', f_L_law_b1944 N K h 9000 1 100 (nI p) = K h2 9000 1 100 (nI (p + 8)) ∧ INV L xs h2 σ' tr' u' (n + 1) := by
  have S := I.2.2.2.2.1
  obtain ⟨v, h1, h2, σ', tr', u', e1, e2, S1, I2⟩ := pub_fund (a := xs (p + 1)) I
  refine ⟨h2, σ', tr', u', ?_, I2⟩
  unfold f_L_law_b1944 f_L_law_b2505
  rw [sr1 S hL hp, obs, e1, obs]
  dsimp only
  rw [sr1 S1 hL hp, obs, e2, obs, if_pos rfl, nI_8]
theorem l_send (I : INV L xs h σ tr u n) (hN : 2000 < N) (hn : n ≤ 590) (hL : L ≤ 4096) (hp : p + 8 ≤ L) : ∃ h2 σ' tr' u', f_L_law_b1967 N K h 9000 1 100 (nI p) = K h2 9000 1 100 (nI (p + 8)) ∧ INV L xs h2 σ' tr' u' (n + 1) := by
  have S := I.2.2.2.2.1
  obtain ⟨v, h1, h2, σ', tr', u', e1, e2, S1, I2⟩ := pub_send (a := xs (p + 1)) I
  refine ⟨h2, σ', tr', u', ?_, I2⟩
  unfold f_L_law_b1967 f_L_law_b2505
  rw [sr1 S hL hp, obs, e1, obs]
  dsimp only
  rw [sr1 S1 hL hp, obs, e2, obs, if_pos rfl, nI_8]
theorem l_arrive (I : INV L xs h σ tr u n) (hN : 2000 < N) (hn : n ≤ 590) (hL : L ≤ 4096) (hp : p + 8 ≤ L) : ∃ h2 σ' tr' u', f_L_law_b1990 N K h 9000 1 100 (nI p) = K h2 9000 1 100 (nI (p + 8)) ∧ INV L xs h2 σ' tr' u' (n + 1) := by
  have S := I.2.2.2.2.1
  obtain ⟨v, h1, h2, σ', tr', u', e1, e2, S1, I2⟩ := pub_arrive (a := xs (p + 1)) (b := xs (p + 2)) I
  refine ⟨h2, σ', tr', u', ?_, I2⟩
  unfold f_L_law_b1990 f_L_law_b2505
  rw [sr1 S hL hp, obs, sr2 S hL hp, obs, e1, obs]
  dsimp only
  rw [sr1 S1 hL hp, obs, sr2 S1 hL hp, obs, e2, obs, if_pos rfl, nI_8]
theorem l_complain (I : INV L xs h σ tr u n) (hN : 2000 < N) (hn : n ≤ 590) (hL : L ≤ 4096) (hp : p + 8 ≤ L) : ∃ h2 σ' tr' u', f_L_law_b2023 N K h 9000 1 100 (nI p) = K h2 9000 1 100 (nI (p + 8)) ∧ INV L xs h2 σ' tr' u' (n + 1) := by
  have S := I.2.2.2.2.1
  obtain ⟨v, h1, h2, σ', tr', u', e1, e2, S1, I2⟩ := pub_complain (N := N) (a := xs (p + 1)) (b := xs (p + 2)) I hN
  refine ⟨h2, σ', tr', u', ?_, I2⟩
  unfold f_L_law_b2023 f_L_law_b2505
  rw [sr1 S hL hp, obs, sr2 S hL hp, obs, e1, obs]
  dsimp only
  rw [sr1 S1 hL hp, obs, sr2 S1 hL hp, obs, e2, obs, if_pos rfl, nI_8]
theorem l_judge (I : INV L xs h σ tr u n) (hN : 2000 < N) (hn : n ≤ 590) (hL : L ≤ 4096) (hp : p + 8 ≤ L) : ∃ h2 σ' tr' u', f_L_law_b2056 N K h 9000 1 100 (nI p) = K h2 9000 1 100 (nI (p + 8)) ∧ INV L xs h2 σ' tr' u' (n + 1) := by
  have S := I.2.2.2.2.1
  obtain ⟨v, h1, h2, σ', tr', u', e1, e2, S1, I2⟩ := pub_judge (N := N) (a := xs (p + 1)) I hN
  refine ⟨h2, σ', tr', u', ?_, I2⟩
  unfold f_L_law_b2056 f_L_law_b2505
  rw [sr1 S hL hp, obs, e1, obs]
  dsimp only
  rw [sr1 S1 hL hp, obs, e2, obs, if_pos rfl, nI_8]
theorem l_complaint (I : INV L xs h σ tr u n) (hN : 2000 < N) (hn : n ≤ 590) (hL : L ≤ 4096) (hp : p + 8 ≤ L) : ∃ h2 σ' tr' u', f_L_law_b2079 N K h 9000 1 100 (nI p) = K h2 9000 1 100 (nI (p + 8)) ∧ INV L xs h2 σ' tr' u' (n + 1) := by
  have S := I.2.2.2.2.1
  obtain ⟨v, e1, e2⟩ := pub_complaint (N := N) (a := xs (p + 1)) (b := xs (p + 2)) I hN
  refine ⟨h, σ, tr, u, ?_, I.up (by omega)⟩
  unfold f_L_law_b2079 f_L_law_b2505
  rw [sr1 S hL hp, obs, sr2 S hL hp, obs, e1, obs, obs, obs, e2, obs, if_pos rfl, nI_8]
theorem l_debt (I : INV L xs h σ tr u n) (hN : 2000 < N) (hn : n ≤ 590) (hL : L ≤ 4096) (hp : p + 8 ≤ L) : ∃ h2 σ' tr' u', f_L_law_b2112 N K h 9000 1 100 (nI p) = K h2 9000 1 100 (nI (p + 8)) ∧ INV L xs h2 σ' tr' u' (n + 1) := by
  have S := I.2.2.2.2.1
  obtain ⟨v, e1, e2⟩ := pub_debt (a := xs (p + 1)) I
  refine ⟨h, σ, tr, u, ?_, I.up (by omega)⟩
  unfold f_L_law_b2112 f_L_law_b2505
  rw [sr1 S hL hp, obs, e1, obs, obs, e2, obs, if_pos rfl, nI_8]
theorem l_group (I : INV L xs h σ tr u n) (hN : 2000 < N) (hn : n ≤ 590) (hL : L ≤ 4096) (hp : p + 8 ≤ L) : ∃ h2 σ' tr' u', f_L_law_b2135 N K h 9000 1 100 (nI p) = K h2 9000 1 100 (nI (p + 8)) ∧ INV L xs h2 σ' tr' u' (n + 1) := by
  have S := I.2.2.2.2.1
  obtain ⟨v, h1, h2, σ', tr', u', e1, e2, S1, I2⟩ := pub_group (a := xs (p + 1)) (b := xs (p + 2)) I
  refine ⟨h2, σ', tr', u', ?_, I2⟩
  unfold f_L_law_b2135 f_L_law_b2505
  rw [sr1 S hL hp, obs, sr2 S hL hp, obs, e1, obs]
  dsimp only
  rw [sr1 S1 hL hp, obs, sr2 S1 hL hp, obs, e2, obs, if_pos rfl, nI_8]
theorem l_vote (I : INV L xs h σ tr u n) (hN : 2000 < N) (hn : n ≤ 590) (hL : L ≤ 4096) (hp : p + 8 ≤ L) : ∃ h2 σ' tr' u', f_L_law_b2168 N K h 9000 1 100 (nI p) = K h2 9000 1 100 (nI (p + 8)) ∧ INV L xs h2 σ' tr' u' (n + 1) := by
  have S := I.2.2.2.2.1
  obtain ⟨v, h1, h2, σ', tr', u', e1, e2, S1, I2⟩ := pub_vote (a := xs (p + 1)) (b := xs (p + 2)) I
  refine ⟨h2, σ', tr', u', ?_, I2⟩
  unfold f_L_law_b2168 f_L_law_b2505
  rw [sr1 S hL hp, obs, sr2 S hL hp, obs, e1, obs]
  dsimp only
  rw [sr1 S1 hL hp, obs, sr2 S1 hL hp, obs, e2, obs, if_pos rfl, nI_8]
theorem l_share (I : INV L xs h σ tr u n) (hN : 2000 < N) (hn : n ≤ 590) (hL : L ≤ 4096) (hp : p + 8 ≤ L) : ∃ h2 σ' tr' u', f_L_law_b2201 N K h 9000 1 100 (nI p) = K h2 9000 1 100 (nI (p + 8)) ∧ INV L xs h2 σ' tr' u' (n + 1) := by
  have S := I.2.2.2.2.1
  obtain ⟨v, h1, e1, e2, I1⟩ := pub_share (N := N) (a := xs (p + 1)) (b := xs (p + 2)) I hN
  have S1 := I1.2.2.2.2.1
  refine ⟨h1, σ, tr, u, ?_, I1.up (by omega)⟩
  unfold f_L_law_b2201 f_L_law_b2505
  rw [sr1 S hL hp, obs, sr2 S hL hp, obs, e1, obs]
  dsimp only
  rw [sr1 S1 hL hp, obs, sr2 S1 hL hp, obs, e2, obs, if_pos rfl, nI_8]
theorem l_act (I : INV L xs h σ tr u n) (hN : 2000 < N) (hn : n ≤ 590) (hL : L ≤ 4096) (hp : p + 8 ≤ L) : ∃ h2 σ' tr' u', f_L_law_b2234 N K h 9000 1 100 (nI p) = K h2 9000 1 100 (nI (p + 8)) ∧ INV L xs h2 σ' tr' u' (n + 1) := by
  have S := I.2.2.2.2.1
  obtain ⟨v, h1, h2, σ', tr', u', e1, e2, S1, I2⟩ := pub_act (a := xs (p + 1)) (b := xs (p + 2)) (x := xs (p + 3)) I
  refine ⟨h2, σ', tr', u', ?_, I2⟩
  unfold f_L_law_b2234 f_L_law_b2505
  rw [sr1 S hL hp, obs, sr2 S hL hp, obs, sr3 S hL hp, obs, e1, obs]
  dsimp only
  rw [sr1 S1 hL hp, obs, sr2 S1 hL hp, obs, sr3 S1 hL hp, obs, e2, obs, if_pos rfl, nI_8]
theorem l_trace (I : INV L xs h σ tr u n) (hN : 2000 < N) (hn : n ≤ 590) (hL : L ≤ 4096) (hp : p + 8 ≤ L) : ∃ h2 σ' tr' u', f_L_law_b2277 N K h 9000 1 100 (nI p) = K h2 9000 1 100 (nI (p + 8)) ∧ INV L xs h2 σ' tr' u' (n + 1) := by
  have S := I.2.2.2.2.1
  obtain ⟨v, e1, e2⟩ := pub_trace (a := xs (p + 1)) I
  refine ⟨h, σ, tr, u, ?_, I.up (by omega)⟩
  unfold f_L_law_b2277 f_L_law_b2505
  rw [sr1 S hL hp, obs, e1, obs, obs, e2, obs, if_pos rfl, nI_8]
theorem l_taken (I : INV L xs h σ tr u n) (hN : 2000 < N) (hn : n ≤ 590) (hL : L ≤ 4096) (hp : p + 8 ≤ L) : ∃ h2 σ' tr' u', f_L_law_b2300 N K h 9000 1 100 (nI p) = K h2 9000 1 100 (nI (p + 8)) ∧ INV L xs h2 σ' tr' u' (n + 1) := by
  have S := I.2.2.2.2.1
  obtain ⟨v, e1, e2⟩ := pub_taken (a := xs (p + 1)) (b := xs (p + 2)) I
  refine ⟨h, σ, tr, u, ?_, I.up (by omega)⟩
  unfold f_L_law_b2300 f_L_law_b2505
  rw [sr1 S hL hp, obs, sr2 S hL hp, obs, e1, obs, obs, obs, e2, obs, if_pos rfl, nI_8]
theorem l_count (I : INV L xs h σ tr u n) (hN : 2000 < N) (hn : n ≤ 590) (hL : L ≤ 4096) (hp : p + 8 ≤ L) : ∃ h2 σ' tr' u', f_L_law_b2333 N K h 9000 1 100 (nI p) = K h2 9000 1 100 (nI (p + 8)) ∧ INV L xs h2 σ' tr' u' (n + 1) := by
  have S := I.2.2.2.2.1
  obtain ⟨v, e1, e2⟩ := pub_count (a := xs (p + 1)) I
  refine ⟨h, σ, tr, u, ?_, I.up (by omega)⟩
  unfold f_L_law_b2333 f_L_law_b2505
  rw [sr1 S hL hp, obs, e1, obs, obs, e2, obs, if_pos rfl, nI_8]
theorem l_sheet (I : INV L xs h σ tr u n) (hN : 2000 < N) (hn : n ≤ 590) (hL : L ≤ 4096) (hp : p + 8 ≤ L) : ∃ h2 σ' tr' u', f_L_law_b2356 N K h 9000 1 100 (nI p) = K h2 9000 1 100 (nI (p + 8)) ∧ INV L xs h2 σ' tr' u' (n + 1) := by
  have S := I.2.2.2.2.1
  obtain ⟨v, h1, h2, σ', tr', u', e1, e2, S1, I2⟩ := pub_sheet (N := N) (a := xs (p + 1)) (b := xs (p + 2)) (c := xs (p + 3)) I hN
  refine ⟨h2, σ', tr', u', ?_, I2⟩
  unfold f_L_law_b2356 f_L_law_b2505
  rw [sr1 S hL hp, obs, sr2 S hL hp, obs, sr3 S hL hp, obs, e1, obs]
  dsimp only
  rw [sr1 S1 hL hp, obs, sr2 S1 hL hp, obs, sr3 S1 hL hp, obs, e2, obs, if_pos rfl, nI_8]
theorem l_cell (I : INV L xs h σ tr u n) (hN : 2000 < N) (hn : n ≤ 590) (hL : L ≤ 4096) (hp : p + 8 ≤ L) : ∃ h2 σ' tr' u', f_L_law_b2399 N K h 9000 1 100 (nI p) = K h2 9000 1 100 (nI (p + 8)) ∧ INV L xs h2 σ' tr' u' (n + 1) := by
  have S := I.2.2.2.2.1
  obtain ⟨v, h1, h2, σ', tr', u', e1, e2, S1, I2⟩ := pub_cell (a := xs (p + 1)) (b := xs (p + 2)) (c := xs (p + 3)) I
  refine ⟨h2, σ', tr', u', ?_, I2⟩
  unfold f_L_law_b2399 f_L_law_b2505
  rw [sr1 S hL hp, obs, sr2 S hL hp, obs, sr3 S hL hp, obs, e1, obs]
  dsimp only
  rw [sr1 S1 hL hp, obs, sr2 S1 hL hp, obs, sr3 S1 hL hp, obs, e2, obs, if_pos rfl, nI_8]
theorem l_copy (I : INV L xs h σ tr u n) (hN : 2000 < N) (hn : n ≤ 590) (hL : L ≤ 4096) (hp : p + 8 ≤ L) : ∃ h2 σ' tr' u', f_L_law_b2442 N K h 9000 1 100 (nI p) = K h2 9000 1 100 (nI (p + 8)) ∧ INV L xs h2 σ' tr' u' (n + 1) := by
  have S := I.2.2.2.2.1
  obtain ⟨v, h1, h2, σ', tr', u', e1, e2, S1, I2⟩ := pub_copy (N := N) (a := xs (p + 1)) (b := xs (p + 2)) (c := xs (p + 3)) (d := xs (p + 4)) (e := xs (p + 5)) I hN
  refine ⟨h2, σ', tr', u', ?_, I2⟩
  unfold f_L_law_b2442 f_L_law_b2505
  rw [sr1 S hL hp, obs, sr2 S hL hp, obs, sr3 S hL hp, obs, sr4 S hL hp, obs, sr5 S hL hp, obs, e1, obs]
  dsimp only
  rw [sr1 S1 hL hp, obs, sr2 S1 hL hp, obs, sr3 S1 hL hp, obs, sr4 S1 hL hp, obs, sr5 S1 hL hp, obs, e2, obs, if_pos rfl, nI_8]
theorem l_step (I : INV L xs h σ tr u n) (hN : 2000 < N) (hn : n ≤ 590) (hL : L ≤ 4096) (hp : p + 8 ≤ L) : ∃ h2 σ' tr' u', f_L_law_b18_body N K h 9000 1 100 (nI p) = K h2 9000 1 100 (nI (p + 8)) ∧ INV L xs h2 σ' tr' u' (n + 1) := by
  have S := I.2.2.2.2.1
  have al : xal h 9000 = some (nI L) := by unfold xal; rw [if_pos (Or.inr (Or.inl S.1)), S.2.1]
  have ge : ¬ nI L - 8 < nI p := by
    rw [show (8 : Int32) = nI 8 by decide, Int32.lt_iff_toInt_lt, nIs (by omega) (by omega), nI_toInt (by omega)]
    omega
  unfold f_L_law_b18_body
  rw [al, obs, if_neg ge, sr0 S hL hp, obs]
  generalize (xs p &&& 63) = cd
  by_cases c0 : cd = 0
  · rw [if_pos c0]; exact l_gauge I hN hn hL hp
  rw [if_neg c0]
  by_cases c1 : cd = 1
  · rw [if_pos c1]; exact l_down I hN hn hL hp
  rw [if_neg c1]
  by_cases c2 : cd = 2
  · rw [if_pos c2]; exact l_law I hN hn hL hp
  rw [if_neg c2]
  by_cases c3 : cd = 3
  · rw [if_pos c3]; exact l_rain I hN hn hL hp
  rw [if_neg c3]
  by_cases c4 : cd = 4
  · rw [if_pos c4]; exact l_green I hN hn hL hp
  rw [if_neg c4]
  by_cases c5 : cd = 5
  · rw [if_pos c5]; exact l_seen I hN hn hL hp
  rw [if_neg c5]
  by_cases c6 : cd = 6
  · rw [if_pos c6]; exact l_lay I hN hn hL hp
  rw [if_neg c6]
  by_cases c7 : cd = 7
  · rw [if_pos c7]; exact l_told I hN hn hL hp
  rw [if_neg c7]
  by_cases c8 : cd = 8
  · rw [if_pos c8]; exact l_filled I hN hn hL hp
  rw [if_neg c8]
  by_cases c9 : cd = 9
  · rw [if_pos c9]; exact l_span I hN hn hL hp
  rw [if_neg c9]
  by_cases c10 : cd = 10
  · rw [if_pos c10]; exact l_odd I hN hn hL hp
  rw [if_neg c10]
  by_cases c11 : cd = 11
  · rw [if_pos c11]; exact l_feed I hN hn hL hp
  rw [if_neg c11]
  by_cases c12 : cd = 12
  · rw [if_pos c12]; exact l_term I hN hn hL hp
  rw [if_neg c12]
  by_cases c13 : cd = 13
  · rw [if_pos c13]; exact l_pay I hN hn hL hp
  rw [if_neg c13]
  by_cases c14 : cd = 14
  · rw [if_pos c14]; exact l_farm I hN hn hL hp
  rw [if_neg c14]
  by_cases c15 : cd = 15
  · rw [if_pos c15]; exact l_plant I hN hn hL hp
  rw [if_neg c15]
  by_cases c16 : cd = 16
  · rw [if_pos c16]; exact l_enroll I hN hn hL hp
  rw [if_neg c16]
  by_cases c17 : cd = 17
  · rw [if_pos c17]; exact l_lapse I hN hn hL hp
  rw [if_neg c17]
  by_cases c18 : cd = 18
  · rw [if_pos c18]; exact l_of I hN hn hL hp
  rw [if_neg c18]
  by_cases c19 : cd = 19
  · rw [if_pos c19]; exact l_due I hN hn hL hp
  rw [if_neg c19]
  by_cases c20 : cd = 20
  · rw [if_pos c20]; exact l_line I hN hn hL hp
  rw [if_neg c20]
  by_cases c21 : cd = 21
  · rw [if_pos c21]; exact l_look I hN hn hL hp
  rw [if_neg c21]
  by_cases c22 : cd = 22
  · rw [if_pos c22]; exact l_basis I hN hn hL hp
  rw [if_neg c22]
  by_cases c23 : cd = 23
  · rw [if_pos c23]; exact l_site I hN hn hL hp
  rw [if_neg c23]
  by_cases c24 : cd = 24
  · rw [if_pos c24]; exact l_best I hN hn hL hp
  rw [if_neg c24]
  by_cases c25 : cd = 25
  · rw [if_pos c25]; exact l_mean I hN hn hL hp
  rw [if_neg c25]
  by_cases c26 : cd = 26
  · rw [if_pos c26]; exact l_price I hN hn hL hp
  rw [if_neg c26]
  by_cases c27 : cd = 27
  · rw [if_pos c27]; exact l_trend I hN hn hL hp
  rw [if_neg c27]
  by_cases c28 : cd = 28
  · rw [if_pos c28]; exact l_beside I hN hn hL hp
  rw [if_neg c28]
  by_cases c29 : cd = 29
  · rw [if_pos c29]; exact l_foretold I hN hn hL hp
  rw [if_neg c29]
  by_cases c30 : cd = 30
  · rw [if_pos c30]; exact l_income I hN hn hL hp
  rw [if_neg c30]
  by_cases c31 : cd = 31
  · rw [if_pos c31]; exact l_total I hN hn hL hp
  rw [if_neg c31]
  by_cases c32 : cd = 32
  · rw [if_pos c32]; exact l_layer I hN hn hL hp
  rw [if_neg c32]
  by_cases c33 : cd = 33
  · rw [if_pos c33]; exact l_lots I hN hn hL hp
  rw [if_neg c33]
  by_cases c34 : cd = 34
  · rw [if_pos c34]; exact l_lasts I hN hn hL hp
  rw [if_neg c34]
  by_cases c35 : cd = 35
  · rw [if_pos c35]; exact l_settle I hN hn hL hp
  rw [if_neg c35]
  by_cases c36 : cd = 36
  · rw [if_pos c36]; exact l_payment I hN hn hL hp
  rw [if_neg c36]
  by_cases c37 : cd = 37
  · rw [if_pos c37]; exact l_fund I hN hn hL hp
  rw [if_neg c37]
  by_cases c38 : cd = 38
  · rw [if_pos c38]; exact l_send I hN hn hL hp
  rw [if_neg c38]
  by_cases c39 : cd = 39
  · rw [if_pos c39]; exact l_arrive I hN hn hL hp
  rw [if_neg c39]
  by_cases c40 : cd = 40
  · rw [if_pos c40]; exact l_complain I hN hn hL hp
  rw [if_neg c40]
  by_cases c41 : cd = 41
  · rw [if_pos c41]; exact l_judge I hN hn hL hp
  rw [if_neg c41]
  by_cases c42 : cd = 42
  · rw [if_pos c42]; exact l_complaint I hN hn hL hp
  rw [if_neg c42]
  by_cases c43 : cd = 43
  · rw [if_pos c43]; exact l_debt I hN hn hL hp
  rw [if_neg c43]
  by_cases c44 : cd = 44
  · rw [if_pos c44]; exact l_group I hN hn hL hp
  rw [if_neg c44]
  by_cases c45 : cd = 45
  · rw [if_pos c45]; exact l_vote I hN hn hL hp
  rw [if_neg c45]
  by_cases c46 : cd = 46
  · rw [if_pos c46]; exact l_share I hN hn hL hp
  rw [if_neg c46]
  by_cases c47 : cd = 47
  · rw [if_pos c47]; exact l_act I hN hn hL hp
  rw [if_neg c47]
  by_cases c48 : cd = 48
  · rw [if_pos c48]; exact l_trace I hN hn hL hp
  rw [if_neg c48]
  by_cases c49 : cd = 49
  · rw [if_pos c49]; exact l_taken I hN hn hL hp
  rw [if_neg c49]
  by_cases c50 : cd = 50
  · rw [if_pos c50]; exact l_count I hN hn hL hp
  rw [if_neg c50]
  by_cases c51 : cd = 51
  · rw [if_pos c51]; exact l_sheet I hN hn hL hp
  rw [if_neg c51]
  by_cases c52 : cd = 52
  · rw [if_pos c52]; exact l_cell I hN hn hL hp
  rw [if_neg c52]
  by_cases c53 : cd = 53
  · rw [if_pos c53]; exact l_copy I hN hn hL hp
  rw [if_neg c53]
  unfold f_L_law_b2505
  rw [nI_8]
  exact ⟨h, σ, tr, u, rfl, I.up (by omega)⟩
theorem l_loop (hN : 2000 < N) (hL : L ≤ 4096) : ∀ (d m n : Nat) (h : AH) (σ : SG) (tr : Nat → Nat) (u : Nat), L < 8 * n + 8 + 8 * d → 8 * n ≤ 4096 → d < m → INV L xs h σ tr u n → ∃ h', f_L_law_b18 N m h 9000 1 100 (nI (8 * n)) = some (1, h') := by
  have fin : ∀ (m n : Nat) (h : AH) (σ : SG) (tr : Nat → Nat) (u : Nat), L < 8 * n + 8 → 8 * n ≤ 4096 → INV L xs h σ tr u n → ∃ h', f_L_law_b18 N (m + 1) h 9000 1 100 (nI (8 * n)) = some (1, h') := by
    intro m n h σ tr u hl hn I
    have S := I.2.2.2.2.1
    have al : xal h 9000 = some (nI L) := by unfold xal; rw [if_pos (Or.inr (Or.inl S.1)), S.2.1]
    have lt : nI L - 8 < nI (8 * n) := by
      rw [show (8 : Int32) = nI 8 by decide, Int32.lt_iff_toInt_lt, nIs (by omega) (by omega), nI_toInt (by omega)]
      omega
    refine ⟨h, ?_⟩
    show f_L_law_b18_body N (f_L_law_b18 N m) h 9000 1 100 (nI (8 * n)) = _
    unfold f_L_law_b18_body
    rw [al, obs, if_pos lt]
  intro d
  induction d with
  | zero =>
    intro m n h σ tr u hl hn hm I
    obtain ⟨m, rfl⟩ : ∃ m', m = m' + 1 := ⟨m - 1, by omega⟩
    exact fin m n h σ tr u (by omega) hn I
  | succ d ih =>
    intro m n h σ tr u hl hn hm I
    obtain ⟨m, rfl⟩ : ∃ m', m = m' + 1 := ⟨m - 1, by omega⟩
    by_cases q : 8 * n + 8 ≤ L
    · obtain ⟨h2, σ2, tr2, u2, e, I2⟩ := l_step (K := f_L_law_b18 N m) I hN (by omega) hL q
      obtain ⟨h3, e3⟩ := ih m (n + 1) h2 σ2 tr2 u2 (by omega) (by omega) (by omega) I2
      refine ⟨h3, ?_⟩
      show f_L_law_b18_body N (f_L_law_b18 N m) h 9000 1 100 (nI (8 * n)) = _
      rw [e, show 8 * n + 8 = 8 * (n + 1) by omega, e3]
    · exact fin m n h σ tr u (by omega) hn I
end
