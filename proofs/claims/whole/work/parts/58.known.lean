/-! ===== the reference: as it was known ===== -/
def kT (σ : SG) (A B : Nat → Int32) : SG := (σ.1, fun k => if k = 11 then A else if k = 12 then B else σ.2 k)
/-- only the reference's cells have changed -/
def FRc (h h' : AH) : Prop := kd h' = kd h ∧ ln h' = ln h ∧ fr h' = fr h ∧ ar h' = ar h ∧ ∀ r, r < 100 ∨ 177 ≤ r → fi h' r = fi h r ∧ ai h' r = ai h r
theorem FRc.refl {h : AH} : FRc h h := ⟨rfl, rfl, rfl, rfl, fun _ _ => ⟨rfl, rfl⟩⟩
theorem FRc.trans {h h' h'' : AH} (a : FRc h h') (b : FRc h' h'') : FRc h h'' := by
  obtain ⟨a1, a2, a4, a5, a6⟩ := a
  obtain ⟨b1, b2, b4, b5, b6⟩ := b
  exact ⟨b1.trans a1, b2.trans a2, b4.trans a4, b5.trans a5, fun r hr => ⟨(b6 r hr).1.trans (a6 r hr).1, (b6 r hr).2.trans (a6 r hr).2⟩⟩
theorem FRc.a {h : AH} {r i : Nat} {x : Int32} (h1 : 100 ≤ r) (h2 : r < 177) : FRc h (sai h r i x) := ⟨rfl, rfl, rfl, rfl, fun a ha => ⟨rfl, ai_sai_ne (by omega)⟩⟩
theorem FRc.f {h : AH} {i : Nat} {x : Int32} : FRc h (sfi h 100 i x) := ⟨rfl, rfl, rfl, rfl, fun a ha => ⟨fi_sfi_ne (by omega), rfl⟩⟩
theorem RS.cg {h : AH} {σ σ' : SG} (H : RS h σ) (h1 : ∀ k, σ'.1 k = σ.1 k) (h2 : ∀ k, k < 77 → ∀ j, σ'.2 k j = σ.2 k j) : RS h σ' := by
  obtain ⟨a, b, c, d⟩ := H
  refine ⟨a, b, fun k => by rw [h1]; exact c k, fun k hk => ?_⟩
  rw [d k hk]
  funext j
  exact (h2 k hk j).symm
theorem kT_self {h : AH} {σ : SG} (H : RS h σ) : RS h (kT σ (σ.2 11) (σ.2 12)) := by
  refine H.cg (fun _ => rfl) (fun k _ j => ?_)
  show (if k = 11 then σ.2 11 else if k = 12 then σ.2 12 else σ.2 k) j = σ.2 k j
  by_cases e : k = 11
  · subst e; rfl
  · rw [if_neg e]
    by_cases e2 : k = 12
    · subst e2; rfl
    · rw [if_neg e2]
theorem kT_11 {h : AH} {σ : SG} {A B : Nat → Int32} {n : Nat} {x : Int32} (H : RS h (kT σ A B)) : RS (sai h 111 n x) (kT σ (va_up A n x) B) := by
  refine (H.ai 11 n x).cg (fun _ => rfl) (fun k _ j => ?_)
  rw [s2_ite]
  show (if k = 11 then va_up A n x else if k = 12 then B else σ.2 k) j = _
  by_cases e : k = 11
  · subst e
    show (if j = n then x else A j) = _
    by_cases e2 : j = n
    · rw [if_pos e2, if_pos ⟨rfl, e2⟩]
    · rw [if_neg e2, if_neg (fun q => e2 q.2)]; rfl
  · rw [if_neg (show ¬ (k = 11 ∧ j = n) from fun q => e q.1)]
    show _ = (if k = 11 then A else if k = 12 then B else σ.2 k) j
    rw [if_neg e, if_neg e]
theorem kT_12 {h : AH} {σ : SG} {A B : Nat → Int32} {n : Nat} {x : Int32} (H : RS h (kT σ A B)) : RS (sai h 112 n x) (kT σ A (va_up B n x)) := by
  refine (H.ai 12 n x).cg (fun _ => rfl) (fun k _ j => ?_)
  rw [s2_ite]
  show (if k = 11 then A else if k = 12 then va_up B n x else σ.2 k) j = _
  by_cases e : k = 12
  · subst e
    show (if j = n then x else B j) = _
    by_cases e2 : j = n
    · rw [if_pos e2, if_pos ⟨rfl, e2⟩]
    · rw [if_neg e2, if_neg (fun q => e2 q.2)]; rfl
  · rw [if_neg (show ¬ (k = 12 ∧ j = n) from fun q => e q.1)]
    show _ = (if k = 11 then A else if k = 12 then B else σ.2 k) j
    rw [if_neg e, if_neg e]
section
variable {h h' : AH} {σ : SG} {N : Nat}
theorem r_clears (H : RS h σ) (hN : 2000 < N) : ∃ h' A B, f_X12_clears h N 100 1 = some h' ∧ RS h' (kT σ A B) ∧ FRc h h' ∧ (∀ c, c < 1536 → A c = σ.2 11 c ∧ A (1536 + c) = -1) ∧ ∀ c, c < 768 → B c = σ.2 12 c ∧ B (768 + c) = -1 := by
  have l1 : (1536 : Int32) * 1 = nI 1536 := by decide
  have l2 : (768 : Int32) * 1 = nI 768 := by decide
  have key2 : ∀ h1 A, RS h1 (kT σ A (σ.2 12)) → ∃ h' B, f_X12_clears_b30 N N h1 100 1 0 = some h' ∧ RS h' (kT σ A B) ∧ FRc h1 h' ∧ ∀ c, c < 768 → B c = σ.2 12 c ∧ B (768 + c) = -1 := by
    intro h1 A H1
    refine (lpS (σ := AH) (α := Unit) (fun n i h _ => f_X12_clears_b30 N n h 100 1 (nI i)) (fun _ a => a) 768 (fun h' _ => some h') (fun i h' _ => FRc h1 h' ∧ ∃ B, RS h' (kT σ A B) ∧ ∀ c, c < 768 → B c = σ.2 12 c ∧ (c < i → B (768 + c) = -1)) ?_ ?_ 768 N 0 h1 () (by omega) (by omega) ⟨FRc.refl, _, H1, fun c hc => ⟨rfl, fun q => absurd q (by omega)⟩⟩).elim (fun h' e => ?_)
    · intro n h' _ _
      show f_X12_clears_b30_body N _ h' 100 1 (nI 768) = _
      unfold f_X12_clears_b30_body
      rw [if_pos (by decide)]
    · intro n i h' _ hi ⟨F, B, H', hB⟩
      refine ⟨sai h' 112 (768 + i) (-1), ?_, F.trans (FRc.a (by omega) (by omega)), _, kT_12 H', fun c hc => ⟨?_, fun hci => ?_⟩⟩
      · show f_X12_clears_b30_body N _ h' 100 1 (nI i) = _
        unfold f_X12_clears_b30_body
        rw [if_neg (by rw [lt768, nI_leI (by decide) (by omega)]; omega), rg12 H', obs, l2, nI_add, (rw12 H' (show 768 + i < 1536 by omega)).1, obs, nI_1]
      · show (if c = 768 + i then _ else B c) = _
        rw [if_neg (by omega)]
        exact (hB c hc).1
      · show (if 768 + c = 768 + i then _ else B (768 + c)) = _
        by_cases q : c = i
        · rw [if_pos (by omega)]
        · rw [if_neg (by omega)]
          exact (hB c hc).2 (by omega)
    · obtain ⟨e1, e2, B, e3, e4⟩ := e
      exact ⟨h', B, e1, e3, e2, fun c hc => ⟨(e4 c hc).1, (e4 c hc).2 hc⟩⟩
  unfold f_X12_clears
  rw [if_pos H.1]
  refine (lpS (σ := AH) (α := Unit) (fun n i h _ => f_X12_clears_b2 N n h 100 1 (nI i)) (fun _ a => a) 1536 (fun h' _ => f_X12_clears_b30 N N h' 100 1 0) (fun i h' _ => FRc h h' ∧ ∃ A, RS h' (kT σ A (σ.2 12)) ∧ ∀ c, c < 1536 → A c = σ.2 11 c ∧ (c < i → A (1536 + c) = -1)) ?_ ?_ 1536 N 0 h () (by omega) (by omega) ⟨FRc.refl, _, kT_self H, fun c hc => ⟨rfl, fun q => absurd q (by omega)⟩⟩).elim (fun h' e => ?_)
  · intro n h' _ _
    show f_X12_clears_b2_body N _ h' 100 1 (nI 1536) = _
    unfold f_X12_clears_b2_body
    rw [if_pos (by decide)]
  · intro n i h' _ hi ⟨F, A, H', hA⟩
    refine ⟨sai h' 111 (1536 + i) (-1), ?_, F.trans (FRc.a (by omega) (by omega)), _, kT_11 H', fun c hc => ⟨?_, fun hci => ?_⟩⟩
    · show f_X12_clears_b2_body N _ h' 100 1 (nI i) = _
      unfold f_X12_clears_b2_body
      rw [if_neg (by rw [lt1536, nI_leI (by decide) (by omega)]; omega), rg11 H', obs, l1, nI_add, (rw11 H' (show 1536 + i < 3072 by omega)).1, obs, nI_1]
    · show (if c = 1536 + i then _ else A c) = _
      rw [if_neg (by omega)]
      exact (hA c hc).1
    · show (if 1536 + c = 1536 + i then _ else A (1536 + c)) = _
      by_cases q : c = i
      · rw [if_pos (by omega)]
      · rw [if_neg (by omega)]
        exact (hA c hc).2 (by omega)
  · obtain ⟨e1, e2, A, e3, e4⟩ := e
    obtain ⟨h2, B, k1, k2, k3, k4⟩ := key2 h' A e3
    exact ⟨h2, A, B, e1.trans k1, k2, e2.trans k3, fun c hc => ⟨(e4 c hc).1, (e4 c hc).2 hc⟩, k4⟩
/-- the table that is asked for -/
theorem r_known (H : RS h σ) (W : WV σ) {k : Nat} (hk : k < 2 ^ 31) (hN : 2000 < N) : ∃ h' t A B, f_X12_known h N 100 (nI k) = some (nI t, h') ∧ RS h' (kT σ A B) ∧ FRc h h' ∧ (∀ c, c < 1536 → A c = σ.2 11 c) ∧ (∀ c, c < 768 → B c = σ.2 12 c) ∧ TB (kT σ A B) t (vK σ k) (GK σ k) := by
  have hT := W.1.tl
  obtain ⟨wt1, wt2, wt3⟩ := W.2.2.2.1
  unfold f_X12_known
  rw [if_pos H.1, RS.gi H, obs, hT.1]
  by_cases q : k < cn σ 7
  · rw [if_pos (nI_lt q (by omega))]
    obtain ⟨h1, A, B, c1, c2, c3, c4, c5⟩ := r_clears (N := N) H hN
    rw [c1, obs]
    refine (lpS (σ := AH) (α := Unit) (fun n i h _ => f_X12_known_b17 N n h 100 (nI k) (nI i)) (fun _ a => a) k (fun h' _ => some (1, h')) (fun i h' _ => FRc h h' ∧ ∃ A B, RS h' (kT σ A B) ∧ (∀ c, c < 1536 → A c = σ.2 11 c ∧ A (1536 + c) = vAt σ i c) ∧ ∀ c, c < 768 → B c = σ.2 12 c ∧ B (768 + c) = vAt σ i (1536 + c)) ?_ ?_ k N 0 h1 () (by omega) (by omega) ⟨c3, A, B, c2, c4, c5⟩).elim (fun h' e => ?_)
    · intro n h' _ _
      show f_X12_known_b17_body N _ h' 100 (nI k) (nI k) = _
      unfold f_X12_known_b17_body
      rw [if_pos (nI_le (Nat.le_refl k) (by omega))]
    · intro n i h' _ hi ⟨F, A, B, H', hA, hB⟩
      obtain ⟨w1, w2, w3, w4⟩ := wt1 i (by omega)
      have e8 : (kT σ A B).2 8 i = σ.2 8 i := rfl
      have e9 : (kT σ A B).2 9 i = σ.2 9 i := rfl
      have e10 : (kT σ A B).2 10 i = σ.2 10 i := rfl
      have hng : ¬ nI k ≤ nI i := by rw [nI_leI (by omega) (by omega)]; omega
      rcases w2 with g0 | g1
      · rw [if_pos g0] at w3
        obtain ⟨x, hx, ex⟩ := w3
        have hcx : cix σ i = x := by unfold cix; rw [if_pos g0, ex, nI_clamp (by omega), Nat.zero_add]
        refine ⟨sai h' 111 (1536 + x) (σ.2 10 i), ?_, F.trans (FRc.a (by omega) (by omega)), _, _, kT_11 H', fun c hc => ⟨?_, ?_⟩, fun c hc => ⟨(hB c hc).1, ?_⟩⟩
        · show f_X12_known_b17_body N _ h' 100 (nI k) (nI i) = _
          unfold f_X12_known_b17_body f_X12_known_b76
          rw [if_neg hng, rg8 H', obs, ra8 H' (by omega), obs, e8, if_pos g0, rg11 H', obs, rg9 H', obs, ra9 H' (by omega), obs, rg10 H', obs, ra10 H' (by omega), obs, e9, e10, ex, lt1536, nI_add, (rw11 H' (show 1536 + x < 3072 by omega)).1, obs, nI_1]
        · show (if c = 1536 + x then _ else A c) = _
          rw [if_neg (by omega)]
          exact (hA c hc).1
        · show (if 1536 + c = 1536 + x then _ else A (1536 + c)) = (if cix σ i = c then σ.2 10 i else vAt σ i c)
          rw [hcx]
          by_cases q2 : x = c
          · rw [if_pos (by omega), if_pos q2]
          · rw [if_neg (by omega), if_neg q2]
            exact (hA c hc).2
        · show B (768 + c) = (if cix σ i = 1536 + c then σ.2 10 i else vAt σ i (1536 + c))
          rw [hcx, if_neg (by omega)]
          exact (hB c hc).2
      · have g0 : ¬ σ.2 8 i = 0 := by rw [g1]; decide
        rw [if_neg g0] at w3
        obtain ⟨x, hx, ex⟩ := w3
        have hcx : cix σ i = 1536 + x := by unfold cix; rw [if_neg g0, ex, nI_clamp (by omega)]
        refine ⟨sai h' 112 (768 + x) (σ.2 10 i), ?_, F.trans (FRc.a (by omega) (by omega)), _, _, kT_12 H', fun c hc => ⟨(hA c hc).1, ?_⟩, fun c hc => ⟨?_, ?_⟩⟩
        · show f_X12_known_b17_body N _ h' 100 (nI k) (nI i) = _
          unfold f_X12_known_b17_body f_X12_known_b76
          rw [if_neg hng, rg8 H', obs, ra8 H' (by omega), obs, e8, if_neg g0, rg12 H', obs, rg9 H', obs, ra9 H' (by omega), obs, rg10 H', obs, ra10 H' (by omega), obs, e9, e10, ex, lt768, nI_add, (rw12 H' (show 768 + x < 1536 by omega)).1, obs, nI_1]
        · show A (1536 + c) = (if cix σ i = c then σ.2 10 i else vAt σ i c)
          rw [hcx, if_neg (by omega)]
          exact (hA c hc).2
        · show (if c = 768 + x then _ else B c) = _
          rw [if_neg (by omega)]
          exact (hB c hc).1
        · show (if 768 + c = 768 + x then _ else B (768 + c)) = (if cix σ i = 1536 + c then σ.2 10 i else vAt σ i (1536 + c))
          rw [hcx]
          by_cases q2 : x = c
          · rw [if_pos (by omega), if_pos (by omega)]
          · rw [if_neg (by omega), if_neg (by omega)]
            exact (hB c hc).2
    · obtain ⟨e1, e2, A, B, e3, e4, e5⟩ := e
      refine ⟨h', 1, A, B, e1, e3, e2, fun c hc => (e4 c hc).1, fun c hc => (e5 c hc).1, by omega, fun c hc => ?_, fun c hc => ?_⟩
      · show A (1536 * 1 + c) = vAt σ (min k (cn σ 7)) c
        rw [Nat.min_eq_left (by omega), Nat.mul_one]
        exact (e4 c hc).2
      · show B (768 * 1 + c) = vAt σ (min k (cn σ 7)) (1536 + c)
        rw [Nat.min_eq_left (by omega), Nat.mul_one]
        exact (e5 c hc).2
  · rw [if_neg (fun z => q ((nI_ltI (by omega) (by omega)).mp z))]
    refine ⟨h, 0, σ.2 11, σ.2 12, rfl, kT_self H, FRc.refl, fun _ _ => rfl, fun _ _ => rfl, by omega, fun c hc => ?_, fun c hc => ?_⟩
    · show σ.2 11 (1536 * 0 + c) = vAt σ (min k (cn σ 7)) c
      rw [Nat.min_eq_right (by omega), Nat.mul_zero, Nat.zero_add]
      exact wt2 c hc
    · show σ.2 12 (768 * 0 + c) = vAt σ (min k (cn σ 7)) (1536 + c)
      rw [Nat.min_eq_right (by omega), Nat.mul_zero, Nat.zero_add]
      exact wt3 c hc
end
