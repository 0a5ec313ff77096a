/-! ===== small facts ===== -/
theorem obs {α β : Type} {a : α} {f : α → Option β} : (some a).bind f = f a := rfl
theorem if_true_ {α : Type} {a b : α} : (if True then a else b) = a := if_pos trivial
theorem if_false_ {α : Type} {a b : α} : (if False then a else b) = b := if_neg not_false
theorem b10 : ((1 : Int32) = 0) = False := by decide
theorem b01 : ((0 : Int32) = 1) = False := by decide
theorem n25 {α : Type} {a b : α} : (if (25 : Nat) = 0 then a else b) = b := if_neg (by decide)
theorem n20 {α : Type} {a b : α} : (if (20 : Nat) = 0 then a else b) = b := if_neg (by decide)
theorem n24 {α : Type} {a b : α} : (if (24 : Nat) = 0 then a else b) = b := if_neg (by decide)
theorem n100 {α : Type} {a b : α} : (if (100 : Nat) = 0 then a else b) = b := if_neg (by decide)
theorem bm : ((-1 : Int32) = -1) = True := by decide
theorem nI_mul (a b : Nat) : nI a * nI b = nI (a * b) := (Int32.ofNat_mul a b).symm
theorem nI_sub {a b : Nat} (h : b ≤ a) : nI a - nI b = nI (a - b) := by
  have e : nI (a - b) + nI b = nI a := by rw [nI_add, Nat.sub_add_cancel h]
  rw [← e, Int32.add_sub_cancel]
theorem nI_neg {n : Nat} (h : n < 2 ^ 31) : ¬ nI n = -1 := by
  intro e
  have : ¬ nI n < 0 := nI_pos h
  rw [e] at this
  exact this (by decide)
theorem nI_negF {n : Nat} (h : n < 2 ^ 31) : (nI n = -1) = False := eq_false (nI_neg h)
def oI : Option Nat → Int32
  | none => -1
  | some k => nI k
theorem oI_n : oI none = -1 := rfl
theorem oI_s {k : Nat} : oI (some k) = nI k := rfl
theorem oI_eq {o : Option Nat} (h : ∀ k, o = some k → k < 2 ^ 31) : (oI o = -1) = (o = none) := by
  cases o with
  | none => simp [oI]
  | some k => rw [oI_s, nI_negF (h k rfl)]; simp
/-! ===== loops ===== -/
def itr {α : Type} (st : Nat → α → α) (i : Nat) : Nat → α → α
  | 0, a => a
  | m + 1, a => itr st (i + 1) m (st i a)
def fnd (p : Nat → Prop) [DecidablePred p] (i : Nat) : Nat → Option Nat
  | 0 => none
  | m + 1 => if p i then some i else fnd p (i + 1) m
theorem lpA {τ α : Type} (F : Nat → Nat → α → Option τ) (st : Nat → α → α) (e : Nat) (R : α → Option τ) (P : Nat → α → Prop)
    (hx : ∀ n a, P e a → F (n + 1) e a = R a) (hs : ∀ n i a, i < e → P i a → F (n + 1) i a = F n (i + 1) (st i a) ∧ P (i + 1) (st i a)) :
    ∀ (m N i : Nat) (a : α), i + m = e → m < N → P i a → F N i a = R (itr st i m a) ∧ P e (itr st i m a) := by
  intro m
  induction m with
  | zero =>
    intro N i a he hN h0
    obtain ⟨n, rfl⟩ : ∃ n, N = n + 1 := ⟨N - 1, by omega⟩
    have : i = e := by omega
    subst this
    exact ⟨hx n a h0, h0⟩
  | succ m ih =>
    intro N i a he hN h0
    obtain ⟨n, rfl⟩ : ∃ n, N = n + 1 := ⟨N - 1, by omega⟩
    obtain ⟨h1, h2⟩ := hs n i a (by omega) h0
    rw [h1]
    exact ih n (i + 1) (st i a) (by omega) (by omega) h2
theorem lpB {τ α : Type} (F : Nat → Nat → α → Option τ) (st : Nat → α → α) (e : Nat) (R : α → Option τ)
    (hx : ∀ n a, F (n + 1) e a = R a) (hs : ∀ n i a, i < e → F (n + 1) i a = F n (i + 1) (st i a)) {m N i : Nat} {a : α} (he : i + m = e) (hN : m < N) : F N i a = R (itr st i m a) :=
  (lpA F st e R (fun _ _ => True) (fun n a _ => hx n a) (fun n i a hi _ => ⟨hs n i a hi, trivial⟩) m N i a he hN trivial).1
theorem lpC {τ α : Type} (F : Nat → Nat → α → Option τ) (st : Nat → α → α) (lo e : Nat) (R : α → Option τ)
    (hx : ∀ n a, F (n + 1) e a = R a) (hs : ∀ n i a, lo ≤ i → i < e → F (n + 1) i a = F n (i + 1) (st i a)) {m N : Nat} {a : α} (he : lo + m = e) (hN : m < N) : F N lo a = R (itr st lo m a) :=
  (lpA F st e R (fun i _ => lo ≤ i) (fun n a _ => hx n a) (fun n i a hi hl => ⟨hs n i a hl hi, by omega⟩) m N lo a he hN (Nat.le_refl lo)).1
theorem lpF {τ : Type} (F : Nat → Nat → Option τ) (p : Nat → Prop) [DecidablePred p] (e : Nat) (R : Option Nat → Option τ)
    (hx : ∀ n, F (n + 1) e = R none) (hs : ∀ n i, i < e → F (n + 1) i = if p i then R (some i) else F n (i + 1)) :
    ∀ {m N i : Nat}, i + m = e → m < N → F N i = R (fnd p i m) := by
  intro m
  induction m with
  | zero =>
    intro N i he hN
    obtain ⟨n, rfl⟩ : ∃ n, N = n + 1 := ⟨N - 1, by omega⟩
    have : i = e := by omega
    subst this
    exact hx n
  | succ m ih =>
    intro N i he hN
    obtain ⟨n, rfl⟩ : ∃ n, N = n + 1 := ⟨N - 1, by omega⟩
    rw [hs n i (by omega)]
    unfold fnd
    by_cases q : p i
    · rw [if_pos q, if_pos q]
    · rw [if_neg q, if_neg q]
      exact ih (by omega) (by omega)
theorem lpS {τ α σ : Type} (F : Nat → Nat → σ → α → Option τ) (st : Nat → α → α) (e : Nat) (R : σ → α → Option τ) (P : Nat → σ → α → Prop)
    (hx : ∀ n h a, P e h a → F (n + 1) e h a = R h a) (hs : ∀ n i h a, i < e → P i h a → ∃ h', F (n + 1) i h a = F n (i + 1) h' (st i a) ∧ P (i + 1) h' (st i a)) :
    ∀ (m N i : Nat) (h : σ) (a : α), i + m = e → m < N → P i h a → ∃ h', F N i h a = R h' (itr st i m a) ∧ P e h' (itr st i m a) := by
  intro m
  induction m with
  | zero =>
    intro N i h a he hN h0
    obtain ⟨n, rfl⟩ : ∃ n, N = n + 1 := ⟨N - 1, by omega⟩
    have : i = e := by omega
    subst this
    exact ⟨h, hx n h a h0, h0⟩
  | succ m ih =>
    intro N i h a he hN h0
    obtain ⟨n, rfl⟩ : ∃ n, N = n + 1 := ⟨N - 1, by omega⟩
    obtain ⟨h', h1, h2⟩ := hs n i h a (by omega) h0
    rw [h1]
    exact ih n (i + 1) h' (st i a) (by omega) (by omega) h2
theorem fnd_lt {p : Nat → Prop} [DecidablePred p] {k : Nat} : ∀ {m i : Nat}, fnd p i m = some k → k < i + m ∧ p k := by
  intro m
  induction m with
  | zero => intro i e; cases e
  | succ m ih =>
    intro i e
    unfold fnd at e
    by_cases q : p i
    · rw [if_pos q] at e
      cases e
      exact ⟨by omega, q⟩
    · rw [if_neg q] at e
      have := ih e
      exact ⟨by omega, this.2⟩
theorem itr_inv {α : Type} {st : Nat → α → α} (P : Nat → α → Prop) : ∀ {m i : Nat} {a : α}, P i a → (∀ j b, i ≤ j → j < i + m → P j b → P (j + 1) (st j b)) → P (i + m) (itr st i m a) := by
  intro m
  induction m with
  | zero => intro i a h _; exact h
  | succ m ih =>
    intro i a h hs
    have := ih (hs i a (Nat.le_refl i) (by omega) h) (fun j b h1 h2 => hs j b (by omega) (by omega))
    rw [show i + (m + 1) = i + 1 + m by omega]
    exact this
/-! ===== literals ===== -/
theorem lt0 : (0 : Int32) = nI 0 := by decide
theorem lt2 : (2 : Int32) = nI 2 := by decide
theorem lt3 : (3 : Int32) = nI 3 := by decide
theorem lt4 : (4 : Int32) = nI 4 := by decide
theorem lt5 : (5 : Int32) = nI 5 := by decide
theorem lt6 : (6 : Int32) = nI 6 := by decide
theorem lt7 : (7 : Int32) = nI 7 := by decide
theorem lt8 : (8 : Int32) = nI 8 := by decide
theorem lt9 : (9 : Int32) = nI 9 := by decide
theorem lt10 : (10 : Int32) = nI 10 := by decide
theorem lt11 : (11 : Int32) = nI 11 := by decide
theorem lt12 : (12 : Int32) = nI 12 := by decide
theorem lt15 : (15 : Int32) = nI 15 := by decide
theorem lt16 : (16 : Int32) = nI 16 := by decide
theorem lt20 : (20 : Int32) = nI 20 := by decide
theorem lt24 : (24 : Int32) = nI 24 := by decide
theorem lt25 : (25 : Int32) = nI 25 := by decide
theorem lt40 : (40 : Int32) = nI 40 := by decide
theorem lt60 : (60 : Int32) = nI 60 := by decide
theorem lt80 : (80 : Int32) = nI 80 := by decide
theorem lt99 : (99 : Int32) = nI 99 := by decide
theorem lt100 : (100 : Int32) = nI 100 := by decide
theorem lt198 : (198 : Int32) = nI 198 := by decide
theorem lt200 : (200 : Int32) = nI 200 := by decide
theorem lt255 : (255 : Int32) = nI 255 := by decide
theorem lt700 : (700 : Int32) = nI 700 := by decide
theorem lt768 : (768 : Int32) = nI 768 := by decide
theorem lt1536 : (1536 : Int32) = nI 1536 := by decide
theorem lt9999 : (9999 : Int32) = nI 9999 := by decide
/-! ===== ranges ===== -/
def ok (v : Int32) (n : Nat) : Bool := decide (0 ≤ v ∧ v < nI n)
theorem ok_iff {v : Int32} {n : Nat} : ok v n = true ↔ 0 ≤ v ∧ v < nI n := decide_eq_true_iff
theorem ok_nI {k n : Nat} (hn : n < 2 ^ 31) (h : k < n) : ok (nI k) n = true := ok_iff.mpr ⟨nI_pos' (by omega), nI_lt h hn⟩
theorem ok_of {v : Int32} {n : Nat} (hn : n < 2 ^ 31) (h : ok v n = true) : ∃ k, k < n ∧ v = nI k := by
  have h := ok_iff.mp h
  obtain ⟨j, hj, rfl⟩ := nI_of (Int32.not_lt.mpr h.1)
  exact ⟨j, (nI_ltI hj hn).mp h.2, rfl⟩
/-- an argument is a number below n, or it isn't -/
theorem okC (v : Int32) {n : Nat} (hn : n < 2 ^ 31) : ok v n = false ∨ (ok v n = true ∧ ∃ k, k < n ∧ v = nI k) := by
  rcases e : ok v n with _ | _
  · exact Or.inl rfl
  · exact Or.inr ⟨rfl, ok_of hn e⟩
def bd (x : Int32) (n : Nat) : Prop := ∃ k, k < n ∧ x = nI k
theorem apt_eq (a b : Int32) : (if a ≤ b then b - a else a - b) = (if b ≤ a then a - b else b - a) := by
  by_cases h1 : a ≤ b
  · by_cases h2 : b ≤ a
    · have : a = b := Int32.le_antisymm h1 h2
      subst this
      rfl
    · rw [if_pos h1, if_neg h2]
  · by_cases h2 : b ≤ a
    · rw [if_neg h1, if_pos h2]
    · exact absurd (Int32.le_of_lt (Int32.not_le.mp h1)) h2
