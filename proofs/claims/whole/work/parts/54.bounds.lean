/-! ===== bounds ===== -/
theorem bd_mono {x : Int32} {a b : Nat} (h : bd x a) (hab : a ≤ b) : bd x b := by
  obtain ⟨k, hk, e⟩ := h
  exact ⟨k, by omega, e⟩
theorem bd_ne {x : Int32} {n : Nat} (h : bd x n) (hn : n ≤ 2 ^ 31) : ¬ x = -1 := by
  obtain ⟨k, hk, rfl⟩ := h
  exact nI_neg (by omega)
theorem bd_add {x y : Int32} {a b : Nat} (h1 : bd x (a + 1)) (h2 : bd y (b + 1)) : bd (x + y) (a + b + 1) := by
  obtain ⟨k, hk, rfl⟩ := h1
  obtain ⟨l, hl, rfl⟩ := h2
  exact ⟨k + l, by omega, nI_add k l⟩
theorem bd_p1 {x : Int32} {n : Nat} (h : bd (x + 1) (n + 1)) : x = -1 ∨ bd x n := by
  obtain ⟨k, hk, e⟩ := h
  rcases k with _ | k
  · left
    have h2 : x + 1 - 1 = nI 0 - 1 := by rw [e]
    rw [Int32.add_sub_cancel] at h2
    rw [h2]
    decide
  · right
    have h2 : x + 1 - 1 = nI (k + 1) - 1 := by rw [e]
    rw [Int32.add_sub_cancel, nI_pred] at h2
    exact ⟨k, by omega, h2⟩
theorem bd_int {x : Int32} {n : Nat} (h : bd x n) (hn : n ≤ 2 ^ 31) : 0 ≤ x.toInt ∧ x.toInt < n := by
  obtain ⟨k, hk, rfl⟩ := h
  rw [nI_toInt (by omega)]
  omega
theorem bd_of_int {x : Int32} {n : Nat} (h : 0 ≤ x.toInt ∧ x.toInt < n) : bd x n := by
  refine ⟨x.toInt.toNat, by omega, ?_⟩
  have h2 := Int32.toInt_lt x
  apply Int32.toInt_inj.mp
  rw [nI_toInt (by omega)]
  omega
theorem vAt_or {σ : SG} {c : Nat} : ∀ {k : Nat}, vAt σ k c = -1 ∨ ∃ i, i < k ∧ cix σ i = c ∧ vAt σ k c = σ.2 10 i := by
  intro k
  induction k with
  | zero => exact Or.inl rfl
  | succ k ih =>
    unfold vAt
    by_cases e : cix σ k = c
    · rw [if_pos e]; exact Or.inr ⟨k, by omega, e, rfl⟩
    · rw [if_neg e]
      rcases ih with h | ⟨i, h1, h2, h3⟩
      · exact Or.inl h
      · exact Or.inr ⟨i, by omega, h2, h3⟩
def RB (R : Nat → Int32) : Prop := ∀ c, R c = -1 ∨ bd (R c) 10000
theorem vK_RB {σ : SG} (W : WT σ) (k : Nat) : RB (vK σ k) := by
  intro c
  unfold vK
  rcases vAt_or (σ := σ) (c := c) (k := min k (cn σ 7)) with h | ⟨i, h1, -, h3⟩
  · exact Or.inl h
  · rw [h3]
    exact bd_p1 (W.1 i (by omega)).2.2.2
theorem usual_bd {R : Nat → Int32} (hR : RB R) (g w : Nat) : bd (usual R g w) 10000 := by
  have key : ∃ S n, (itr (usS R g w) 0 16 (0, 0)).1 = nI S ∧ (itr (usS R g w) 0 16 (0, 0)).2 = nI n ∧ S ≤ 9999 * n ∧ n ≤ 16 := by
    have := itr_inv (st := usS R g w) (fun j (a : Int32 × Int32) => ∃ S n, a.1 = nI S ∧ a.2 = nI n ∧ S ≤ 9999 * n ∧ n ≤ j) (m := 16) (i := 0) (a := (0, 0)) ⟨0, 0, by decide, by decide, by omega, by omega⟩ (fun j b _ _ hb => by
      obtain ⟨S, n, h1, h2, h3, h4⟩ := hb
      unfold usS
      rcases hR (sp g j w) with q | ⟨k, hk, q⟩
      · rw [if_pos q]; exact ⟨S, n, h1, h2, h3, by omega⟩
      · rw [if_neg (by rw [q]; exact nI_neg (by omega))]
        exact ⟨S + k, n + 1, by rw [h1, q, nI_add], by rw [h2, nI_1], by omega, by omega⟩)
    exact this
  obtain ⟨S, n, h1, h2, h3, h4⟩ := key
  unfold usual
  rw [h1, h2]
  by_cases q : nI n = 0
  · rw [if_pos q]; exact ⟨0, by omega, by decide⟩
  · rw [if_neg q, nI_div (by omega) (by omega)]
    have hn : n ≠ 0 := by
      intro e
      apply q
      rw [e]
      decide
    refine ⟨S / n, ?_, rfl⟩
    have : S / n ≤ 9999 := (Nat.div_le_iff_le_mul_add_pred (by omega)).mpr (by rw [Nat.mul_comm]; omega)
    omega
theorem filled_bd {σ : SG} {R : Nat → Int32} (hR : RB R) (g s w : Nat) : bd (filledO σ R g s w) 10000 := by
  unfold filledO
  by_cases q : R (sp g s w) = -1
  · rw [if_pos q]
    rcases e : nbr σ R g s w with _ | b
    · exact usual_bd hR g w
    · have : ∀ b, nbr σ R g s w = some b → ¬ R (sp b s w) = -1 := by
        exact itr_inv (st := nbS σ R g s w) (fun _ a => ∀ b, a = some b → ¬ R (sp b s w) = -1) (m := cn σ 0) (i := 0) (a := none) (by simp) (fun j a _ _ ha b hb => by
          unfold nbS at hb
          split at hb
          · rename_i q
            cases hb
            exact q.2.1
          · exact ha b hb)
      rcases hR (sp b s w) with h | h
      · exact absurd h (this b e)
      · exact h
  · rw [if_neg q]
    rcases hR (sp g s w) with h | h
    · exact absurd h q
    · exact h
theorem sumW_bd {wt : Nat → Int32} {a m : Nat} (hw : ∀ w, a ≤ w → w < a + m → bd (wt w) 10000) : bd (sumW wt a m) (9999 * m + 1) := by
  have := itr_inv (st := fun w x => x + wt w) (fun j x => bd x (9999 * (j - a) + 1)) (m := m) (i := a) (a := 0) ⟨0, by omega, by decide⟩ (fun j b h1 h2 hb => by
    have := bd_add (a := 9999 * (j - a)) (b := 9999) hb (hw j h1 h2)
    rwa [show 9999 * (j - a) + 9999 + 1 = 9999 * (j + 1 - a) + 1 by omega] at this)
  rwa [show a + m - a = m by omega] at this
theorem dryW_bd {wt : Nat → Int32} {dr : Int32} {a m : Nat} (hm : m < 100) : bd (dryW wt dr a m) (m + 1) := by
  have := itr_inv (st := dryS wt dr) (fun j (q : Int32 × Int32) => bd q.1 (j - a + 1) ∧ bd q.2 (j - a + 1)) (m := m) (i := a) (a := (0, 0)) ⟨⟨0, by omega, by decide⟩, ⟨0, by omega, by decide⟩⟩ (fun j b h1 h2 hb => by
    obtain ⟨⟨x, hx, ex⟩, ⟨y, hy, ey⟩⟩ := hb
    have e1 : b.1 + 1 = nI (x + 1) := by rw [ex, nI_1]
    unfold dryS
    by_cases q : dr ≤ wt j
    · rw [if_pos q]
      refine ⟨⟨0, by omega, lt0⟩, ?_⟩
      simp only
      rw [ey, if_pos (nI_pos' (by omega))]
      exact ⟨y, by omega, rfl⟩
    · rw [if_neg q]
      refine ⟨⟨x + 1, by omega, e1⟩, ?_⟩
      simp only
      rw [e1, ey]
      split
      · exact ⟨y, by omega, rfl⟩
      · exact ⟨x + 1, by omega, rfl⟩)
  have h2 := this.2
  rwa [show a + m - a = m by omega] at h2
theorem itr_congr {α : Type} {st st' : Nat → α → α} : ∀ {m i : Nat} {a : α}, (∀ j b, i ≤ j → j < i + m → st j b = st' j b) → itr st i m a = itr st' i m a := by
  intro m
  induction m with
  | zero => intro i a _; rfl
  | succ m ih =>
    intro i a h
    unfold itr
    rw [h i a (Nat.le_refl i) (by omega)]
    exact ih (fun j b h1 h2 => h j b (by omega) (by omega))
theorem fnd_congr {p p' : Nat → Prop} [DecidablePred p] [DecidablePred p'] : ∀ {m i : Nat}, (∀ j, i ≤ j → j < i + m → (p j ↔ p' j)) → fnd p i m = fnd p' i m := by
  intro m
  induction m with
  | zero => intro i _; rfl
  | succ m ih =>
    intro i h
    unfold fnd
    have h0 := h i (Nat.le_refl i) (by omega)
    have h1 := ih (i := i + 1) (fun j h1 h2 => h j (by omega) (by omega))
    by_cases q : p i
    · rw [if_pos q, if_pos (h0.mp q)]
    · rw [if_neg q, if_neg (fun c => q (h0.mpr c)), h1]
theorem fnd_shift {p : Nat → Prop} [DecidablePred p] {o : Nat} {m i : Nat} [DecidablePred (fun i => p (o + i))] : fnd p (o + i) m = (fnd (fun i => p (o + i)) i m).map (fun i => o + i) := by
  induction m generalizing i with
  | zero => rfl
  | succ m ih =>
    unfold fnd
    by_cases q : p (o + i)
    · rw [if_pos q, if_pos q]; rfl
    · rw [if_neg q, if_neg q]; exact ih (i := i + 1)
