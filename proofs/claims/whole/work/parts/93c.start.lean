/-! ===== the start: all ===== -/
section
variable {h h' g : AH} {σ : SG} {L N : Nat} {xs : Nat → Int32}
theorem r_clears0 (H : RS h σ) (hN : 2000 < N) : ∃ h' A B, f_X12_clears h N 100 0 = some h' ∧ RS h' (kT σ A B) ∧ FRc h h' ∧ (∀ c, c < 1536 → A c = -1) ∧ ∀ c, c < 768 → B c = -1 := by
  have l1 : (1536 : Int32) * 0 = nI 0 := by decide
  have l2 : (768 : Int32) * 0 = nI 0 := by decide
  have key2 : ∀ h1 A, RS h1 (kT σ A (σ.2 12)) → ∃ h' B, f_X12_clears_b30 N N h1 100 0 0 = some h' ∧ RS h' (kT σ A B) ∧ FRc h1 h' ∧ ∀ c, c < 768 → B c = -1 := by
    intro h1 A H1
    refine (lpS (σ := AH) (α := Unit) (fun n i h _ => f_X12_clears_b30 N n h 100 0 (nI i)) (fun _ a => a) 768 (fun h' _ => some h') (fun i h' _ => FRc h1 h' ∧ ∃ B, RS h' (kT σ A B) ∧ ∀ c, c < 768 → (c < i → B c = -1)) ?_ ?_ 768 N 0 h1 () (by omega) (by omega) ⟨FRc.refl, _, H1, fun c hc q => absurd q (by omega)⟩).elim (fun h' e => ?_)
    · intro n h' _ _
      show f_X12_clears_b30_body N _ h' 100 0 (nI 768) = _
      unfold f_X12_clears_b30_body
      rw [if_pos (by decide)]
    · intro n i h' _ hi ⟨F, B, H', hB⟩
      refine ⟨sai h' 112 i (-1), ?_, F.trans (FRc.a (by omega) (by omega)), _, kT_12 H', fun c hc hci => ?_⟩
      · show f_X12_clears_b30_body N _ h' 100 0 (nI i) = _
        unfold f_X12_clears_b30_body
        rw [if_neg (by rw [lt768, nI_leI (by decide) (by omega)]; omega), rg12 H', obs, l2, nI_add, Nat.zero_add, (rw12 H' (show i < 1536 by omega)).1, obs, nI_1]
      · show (if c = i then _ else B c) = _
        by_cases q : c = i
        · rw [if_pos q]
        · rw [if_neg (by omega)]
          exact hB c hc (by omega)
    · obtain ⟨e1, e2, B, e3, e4⟩ := e
      exact ⟨h', B, e1, e3, e2, fun c hc => e4 c hc hc⟩
  unfold f_X12_clears
  rw [if_pos H.1]
  refine (lpS (σ := AH) (α := Unit) (fun n i h _ => f_X12_clears_b2 N n h 100 0 (nI i)) (fun _ a => a) 1536 (fun h' _ => f_X12_clears_b30 N N h' 100 0 0) (fun i h' _ => FRc h h' ∧ ∃ A, RS h' (kT σ A (σ.2 12)) ∧ ∀ c, c < 1536 → (c < i → A c = -1)) ?_ ?_ 1536 N 0 h () (by omega) (by omega) ⟨FRc.refl, _, kT_self H, fun c hc q => absurd q (by omega)⟩).elim (fun h' e => ?_)
  · intro n h' _ _
    show f_X12_clears_b2_body N _ h' 100 0 (nI 1536) = _
    unfold f_X12_clears_b2_body
    rw [if_pos (by decide)]
  · intro n i h' _ hi ⟨F, A, H', hA⟩
    refine ⟨sai h' 111 i (-1), ?_, F.trans (FRc.a (by omega) (by omega)), _, kT_11 H', fun c hc hci => ?_⟩
    · show f_X12_clears_b2_body N _ h' 100 0 (nI i) = _
      unfold f_X12_clears_b2_body
      rw [if_neg (by rw [lt1536, nI_leI (by decide) (by omega)]; omega), rg11 H', obs, l1, nI_add, Nat.zero_add, (rw11 H' (show i < 3072 by omega)).1, obs, nI_1]
    · show (if c = i then _ else A c) = _
      by_cases q : c = i
      · rw [if_pos q]
      · rw [if_neg (by omega)]
        exact hA c hc (by omega)
  · obtain ⟨e1, e2, A, e3, e4⟩ := e
    obtain ⟨h2, B, k1, k2, k3, k4⟩ := key2 h' A e3
    exact ⟨h2, A, B, e1.trans k1, k2, e2.trans k3, fun c hc => e4 c hc hc, k4⟩
theorem kdH1 {r : Nat} : kd (H1 L xs) r = if r = 29 then 20 else if r = 28 then 20 else if r = 27 then 20 else if r = 26 then 20 else if r = 40 then 20 else if r = 25 then 8 else if r = 39 then 20 else if r = 24 then 8 else if r = 38 then 20 else if r = 23 then 8 else if r = 22 then 24 else if r = 37 then 20 else if r = 21 then 9 else if r = 36 then 20 else if r = 20 then 9 else if r = 35 then 20 else if r = 19 then 9 else if r = 34 then 20 else if r = 18 then 9 else if r = 17 then 20 else if r = 16 then 20 else if r = 33 then 22 else if r = 15 then 10 else if r = 32 then 20 else if r = 31 then 20 else if r = 30 then 20 else if r = 14 then 11 else if r = 13 then 1 else if r = 12 then 1 else if r = 11 then 1 else if r = 10 then 1 else if r = 1 then 13 else kd (hstart L xs) r := rfl
theorem tK1 : ∀ q ∈ cfr, fr (H1 L xs) q.1 q.2.1 = some q.2.2 := of_decide_eq_true rfl
theorem tK2 : ∀ q ∈ ckd, kd (H1 L xs) q.1 = q.2 := of_decide_eq_true rfl
theorem tK3 : ∀ q ∈ cln, ln (H1 L xs) q.1 = q.2 := of_decide_eq_true rfl
theorem tK4 : ∀ j, j < 3 → ar (H1 L xs) 22 j = some (23 + j) := of_decide_eq_true rfl
theorem tI1 : ∀ q ∈ dI, fi (H1 L xs) q.1 q.2.1 = PHI q.2.2 := of_decide_eq_true rfl
theorem tI2 : ∀ q ∈ dC, fi (H1 L xs) q.1 q.2.1 = q.2.2 := of_decide_eq_true rfl
end
