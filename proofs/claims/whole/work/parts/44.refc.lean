/-! ===== what a term pays ===== -/
theorem lpG {τ : Type} (F : Nat → Nat → Option τ) (p : Nat → Prop) [DecidablePred p] (lo e : Nat) (R : Option Nat → Option τ)
    (hx : ∀ n, F (n + 1) e = R none) (hs : ∀ n i, lo ≤ i → i < e → F (n + 2) i = if p i then R (some i) else F (n + 1) (i + 1)) :
    ∀ {m N i : Nat}, i + m = e → m + 1 < N → lo ≤ i → F N i = R (fnd p i m) := by
  intro m
  induction m with
  | zero =>
    intro N i he hN hl
    obtain ⟨n, rfl⟩ : ∃ n, N = n + 1 := ⟨N - 1, by omega⟩
    have : i = e := by omega
    subst this
    exact hx n
  | succ m ih =>
    intro N i he hN hl
    obtain ⟨n, rfl⟩ : ∃ n, N = n + 2 := ⟨N - 2, by omega⟩
    rw [hs n i hl (by omega)]
    unfold fnd
    by_cases q : p i
    · rw [if_pos q, if_pos q]
    · rw [if_neg q, if_neg q]
      exact ih (by omega) (by omega) (by omega)
theorem nI_div {a b : Nat} (ha : a < 2 ^ 31) (hb : b < 2 ^ 31) : nI a / nI b = nI (a / b) := by
  apply Int32.toInt_inj.mp
  have h1 : a / b ≤ a := Nat.div_le_self a b
  rw [Int32.toInt_div, nI_toInt ha, nI_toInt hb, nI_toInt (by omega), show ((a : Int).tdiv (b : Int)) = ((a / b : Nat) : Int) from rfl]
  generalize a / b = q at h1
  apply Int.bmod_eq_of_le <;> omega
def cA (σ : SG) (c : Nat) : Nat := (σ.2 21 c).toNatClampNeg
def cB (σ : SG) (c : Nat) : Nat := (σ.2 22 c).toNatClampNeg
def cs (σ : SG) (t : Nat) : Nat := (σ.2 19 t).toNatClampNeg
/-- a case of a term: its weeks -/
def CW (σ : SG) (c : Nat) : Prop := σ.2 21 c = nI (cA σ c) ∧ σ.2 22 c = nI (cB σ c) ∧ cA σ c ≤ cB σ c ∧ cB σ c ≤ 11
def CK (σ : SG) (c : Nat) : Prop := (σ.2 20 c = 8 ∨ σ.2 20 c = 9 ∨ σ.2 20 c = 10 ∨ (σ.2 20 c = 11 ∧ cA σ c = cB σ c)) ∧ (σ.2 24 c = 0 ∨ σ.2 24 c = 1)
def TW (σ : SG) (t : Nat) : Prop := (σ.2 19 t = nI (cs σ t) ∧ 1 ≤ cs σ t ∧ cs σ t ≤ 4) ∧ (∀ i, i < cs σ t → CW σ (4 * t + i)) ∧
  ((σ.2 14 t = 0 ∧ ∀ i, i < cs σ t → CK σ (4 * t + i)) ∨ (σ.2 14 t = 1 ∧ bd (σ.2 16 t - 1) 9999)) ∧ bd (σ.2 15 t) 10000 ∧ bd (σ.2 17 t) 10000 ∧ bd (σ.2 18 t) 10000
def rgM (σ : SG) (c p : Nat) : Nat := min (cB σ c + p + 1) 12 - (cA σ c + p)
def sumW (wt : Nat → Int32) (a m : Nat) : Int32 := itr (fun w x => x + wt w) a m 0
def dryS (wt : Nat → Int32) (dr : Int32) (w : Nat) (q : Int32 × Int32) : Int32 × Int32 := if dr ≤ wt w then (0, if 0 ≤ q.2 then q.2 else 0) else (q.1 + 1, if q.1 + 1 ≤ q.2 then q.2 else q.1 + 1)
def dryW (wt : Nat → Int32) (dr : Int32) (a m : Nat) : Int32 := (itr (dryS wt dr) a m (0, 0)).2
def grnW (ls : Nat → Int32) (a m : Nat) : Int32 := itr (fun w x => if ls w ≤ x then x else ls w) a m (-1)
def cmpW (σ : SG) (c : Nat) (v : Int32) : Bool := if σ.2 24 c = 0 then !decide (v ≤ σ.2 23 c) else !decide (σ.2 23 c ≤ v)
def soW (σ : SG) (wt ls : Nat → Int32) (c p : Nat) (dr : Int32) : Bool :=
  if σ.2 20 c = 8 then cmpW σ c (sumW wt (cA σ c + p) (rgM σ c p)) else if σ.2 20 c = 9 then cmpW σ c (dryW wt dr (cA σ c + p) (rgM σ c p))
  else if σ.2 20 c = 10 then (!decide (grnW ls (cA σ c + p) (rgM σ c p) = -1) && cmpW σ c (grnW ls (cA σ c + p) (rgM σ c p)))
  else (decide (cA σ c + p < 12) && cmpW σ c (sumW wt (cA σ c + p) (rgM σ c p)))
def payW (σ : SG) (wt ls : Nat → Int32) (t p : Nat) (dr : Int32) : Int32 :=
  if σ.2 14 t = 0 then (if fnd (fun c => soW σ wt ls c p dr = false) (4 * t) (cs σ t) = none then σ.2 15 t else 0)
  else if σ.2 17 t ≤ sumW wt (cA σ (4 * t) + p) (rgM σ (4 * t) p) then (if σ.2 18 t ≤ 0 then σ.2 18 t else 0)
  else if σ.2 18 t ≤ σ.2 15 t * ((σ.2 17 t - sumW wt (cA σ (4 * t) + p) (rgM σ (4 * t) p)) / σ.2 16 t) then σ.2 18 t else σ.2 15 t * ((σ.2 17 t - sumW wt (cA σ (4 * t) + p) (rgM σ (4 * t) p)) / σ.2 16 t)
def AL (σ : SG) (s : Nat) (ss : Nat → Nat) : Prop := ∀ w, w < 12 → (if nI w < σ.1 73 then nI s else σ.1 72) = nI (ss w) ∧ ss w < 16
def wetR (σ : SG) (R : Nat → Int32) (g : Nat) (ss : Nat → Nat) (w : Nat) : Int32 := filledO σ R g (ss w) w
def lushR (σ : SG) (G : Nat → Int32) (g : Nat) (ss : Nat → Nat) (w : Nat) : Int32 := G (sp ((σ.2 1 g).toNatClampNeg / 25) (ss w) w)
section
variable {h : AH} {σ : SG} {R G : Nat → Int32} {t N : Nat} {ss : Nat → Nat} {s : Nat}
theorem r_seasonOf (H : RS h σ) (A : AL σ s ss) {w : Nat} (hw : w < 12) : f_X12_seasonOf h 100 (nI s) (nI w) = some (nI (ss w)) := by
  have := (A w hw).1
  unfold f_X12_seasonOf
  rw [if_pos H.1, RS.gi H, obs, RS.gi H, obs]
  by_cases q : nI w < σ.1 73
  · rw [if_pos q] at this ⊢
    rw [this]
  · rw [if_neg q] at this ⊢
    rw [this]
theorem r_sumOf (H : RS h σ) (W : CT σ) (T : TB σ t R G) (A : AL σ s ss) {g c p : Nat} (hg : g < 8) (hc : c < 32) (hw : CW σ c) (hp : p < 6) (hN : 100 < N) : f_X12_sumOf h N 100 (nI t) (nI c) (nI g) (nI s) (nI p) = some (sumW (wetR σ R g ss) (cA σ c + p) (rgM σ c p)) := by
  obtain ⟨e1, e2, e3, e4⟩ := hw
  have h1 : ∀ w, w < 12 → ss w < 16 := fun w q => (A w q).2
  simp (disch := omega) only [f_X12_sumOf, obs, b10, b01, bm, if_true_, if_false_, eq_self, not_true_eq_false, not_false_eq_true, true_or, or_true, or_false, false_or, and_true, true_and, and_false, false_and, or_self, and_self, Bool.false_eq_true, ite_self, n25, n20, n24, n100, RS.kk H, rg21 H, ra21 H, e1, nI_add]
  refine lpC (fun n i a => f_X12_sumOf_b14 h N n 100 (nI t) (nI c) (nI g) (nI s) (nI p) a (nI i)) (fun w x => x + wetR σ R g ss w) (cA σ c + p) (cA σ c + p + rgM σ c p) (fun a => some a) ?_ ?_ (m := rgM σ c p) rfl (by unfold rgM; omega)
  · intro n a
    have q3 : cA σ c + p + rgM σ c p < 100 := by unfold rgM; omega
    by_cases q : cB σ c + p < cA σ c + p + rgM σ c p
    · simp (disch := omega) only [f_X12_sumOf_b14, f_X12_sumOf_b14_body, obs, b10, b01, bm, if_true_, if_false_, eq_self, not_true_eq_false, not_false_eq_true, true_or, or_true, or_false, false_or, and_true, true_and, and_false, false_and, or_self, and_self, Bool.false_eq_true, ite_self, n25, n20, n24, n100, rg22 H, ra22 H, e2, nI_add, nI_ltI, q]
    · have q2 : 12 ≤ cA σ c + p + rgM σ c p := by unfold rgM at q ⊢; omega
      simp (disch := omega) only [f_X12_sumOf_b14, f_X12_sumOf_b14_body, obs, b10, b01, bm, if_true_, if_false_, eq_self, not_true_eq_false, not_false_eq_true, true_or, or_true, or_false, false_or, and_true, true_and, and_false, false_and, or_self, and_self, Bool.false_eq_true, ite_self, n25, n20, n24, n100, rg22 H, ra22 H, e2, nI_add, nI_ltI, q, lt12, nI_leI, q2]
  · intro n i a hl hi
    have q : ¬ cB σ c + p < i := by unfold rgM at hi; omega
    have q2 : ¬ 12 ≤ i := by unfold rgM at hi; omega
    have q3 := h1 i (by omega)
    simp (disch := omega) only [f_X12_sumOf_b14, f_X12_sumOf_b14_body, obs, b10, b01, bm, if_true_, if_false_, eq_self, not_true_eq_false, not_false_eq_true, true_or, or_true, or_false, false_or, and_true, true_and, and_false, false_and, or_self, and_self, Bool.false_eq_true, ite_self, n25, n20, n24, n100, rg22 H, ra22 H, e2, nI_add, nI_ltI, q, lt12, nI_leI, q2, r_seasonOf H A, r_filledOf H W T, wetR, nI_1]
theorem r_dryOf (H : RS h σ) (W : CT σ) (T : TB σ t R G) (A : AL σ s ss) {g c p k : Nat} (hg : g < 8) (hc : c < 32) (hw : CW σ c) (hp : p < 6) (hk : k < 4) (hN : 100 < N) : f_X12_dryOf h N 100 (nI t) (nI c) (nI g) (nI s) (nI p) (nI k) = some (dryW (wetR σ R g ss) (σ.2 25 k) (cA σ c + p) (rgM σ c p)) := by
  obtain ⟨e1, e2, e3, e4⟩ := hw
  have h1 : ∀ w, w < 12 → ss w < 16 := fun w q => (A w q).2
  simp (disch := omega) only [f_X12_dryOf, obs, b10, b01, bm, if_true_, if_false_, eq_self, not_true_eq_false, not_false_eq_true, true_or, or_true, or_false, false_or, and_true, true_and, and_false, false_and, or_self, and_self, Bool.false_eq_true, ite_self, n25, n20, n24, n100, RS.kk H, rg21 H, ra21 H, e1, nI_add]
  refine lpC (fun n i a => f_X12_dryOf_b17 h N n 100 (nI t) (nI c) (nI g) (nI s) (nI p) (nI k) a.1 a.2 (nI i)) (dryS (wetR σ R g ss) (σ.2 25 k)) (cA σ c + p) (cA σ c + p + rgM σ c p) (fun a => some a.2) ?_ ?_ (m := rgM σ c p) (a := (0, 0)) rfl (by unfold rgM; omega)
  · intro n a
    have q3 : cA σ c + p + rgM σ c p < 100 := by unfold rgM; omega
    by_cases q : cB σ c + p < cA σ c + p + rgM σ c p
    · simp (disch := omega) only [f_X12_dryOf_b17, f_X12_dryOf_b17_body, obs, b10, b01, bm, if_true_, if_false_, eq_self, not_true_eq_false, not_false_eq_true, true_or, or_true, or_false, false_or, and_true, true_and, and_false, false_and, or_self, and_self, Bool.false_eq_true, ite_self, n25, n20, n24, n100, rg22 H, ra22 H, e2, nI_add, nI_ltI, q]
    · have q2 : 12 ≤ cA σ c + p + rgM σ c p := by unfold rgM at q ⊢; omega
      simp (disch := omega) only [f_X12_dryOf_b17, f_X12_dryOf_b17_body, obs, b10, b01, bm, if_true_, if_false_, eq_self, not_true_eq_false, not_false_eq_true, true_or, or_true, or_false, false_or, and_true, true_and, and_false, false_and, or_self, and_self, Bool.false_eq_true, ite_self, n25, n20, n24, n100, rg22 H, ra22 H, e2, nI_add, nI_ltI, q, lt12, nI_leI, q2]
  · intro n i a hl hi
    have q : ¬ cB σ c + p < i := by unfold rgM at hi; omega
    have q2 : ¬ 12 ≤ i := by unfold rgM at hi; omega
    have q3 := h1 i (by omega)
    by_cases q4 : σ.2 25 k ≤ filledO σ R g (ss i) i <;> by_cases q5 : a.1 + 1 ≤ a.2 <;> by_cases q6 : 0 ≤ a.2 <;> simp (disch := omega) only [f_X12_dryOf_b17, f_X12_dryOf_b17_body, f_X12_dryOf_b72, f_X12_dryOf_b88, obs, b10, b01, bm, if_true_, if_false_, eq_self, not_true_eq_false, not_false_eq_true, true_or, or_true, or_false, false_or, and_true, true_and, and_false, false_and, or_self, and_self, Bool.false_eq_true, ite_self, n25, n20, n24, n100, rg22 H, ra22 H, rg25 H, ra25 H, e2, nI_add, nI_ltI, q, lt12, nI_leI, q2, r_seasonOf H A, r_filledOf H W T, wetR, dryS, q4, q5, q6, nI_1]
theorem r_greenOf (H : RS h σ) (T : TB σ t R G) (A : AL σ s ss) {g c p : Nat} (hg : g < 8) (hx : bd (σ.2 1 g) 100) (hc : c < 32) (hw : CW σ c) (hp : p < 6) (hN : 100 < N) : f_X12_greenOf h N 100 (nI t) (nI c) (nI g) (nI s) (nI p) = some (grnW (lushR σ G g ss) (cA σ c + p) (rgM σ c p)) := by
  obtain ⟨e1, e2, e3, e4⟩ := hw
  obtain ⟨x, hx, ex⟩ := hx
  have hT := T.1
  have h1 : ∀ w, w < 12 → ss w < 16 := fun w q => (A w q).2
  have hxc : (nI x).toNatClampNeg = x := nI_clamp (by omega)
  simp (disch := omega) only [f_X12_greenOf, obs, b10, b01, bm, if_true_, if_false_, eq_self, not_true_eq_false, not_false_eq_true, true_or, or_true, or_false, false_or, and_true, true_and, and_false, false_and, or_self, and_self, Bool.false_eq_true, ite_self, n25, n20, n24, n100, RS.kk H, rg21 H, ra21 H, e1, nI_add]
  refine lpC (fun n i a => f_X12_greenOf_b14 h N n 100 (nI t) (nI c) (nI g) (nI s) (nI p) a (nI i)) (fun w x => if lushR σ G g ss w ≤ x then x else lushR σ G g ss w) (cA σ c + p) (cA σ c + p + rgM σ c p) (fun a => some a) ?_ ?_ (m := rgM σ c p) rfl (by unfold rgM; omega)
  · intro n a
    have q3 : cA σ c + p + rgM σ c p < 100 := by unfold rgM; omega
    by_cases q : cB σ c + p < cA σ c + p + rgM σ c p
    · simp (disch := omega) only [f_X12_greenOf_b14, f_X12_greenOf_b14_body, obs, b10, b01, bm, if_true_, if_false_, eq_self, not_true_eq_false, not_false_eq_true, true_or, or_true, or_false, false_or, and_true, true_and, and_false, false_and, or_self, and_self, Bool.false_eq_true, ite_self, n25, n20, n24, n100, rg22 H, ra22 H, e2, nI_add, nI_ltI, q]
    · have q2 : 12 ≤ cA σ c + p + rgM σ c p := by unfold rgM at q ⊢; omega
      simp (disch := omega) only [f_X12_greenOf_b14, f_X12_greenOf_b14_body, obs, b10, b01, bm, if_true_, if_false_, eq_self, not_true_eq_false, not_false_eq_true, true_or, or_true, or_false, false_or, and_true, true_and, and_false, false_and, or_self, and_self, Bool.false_eq_true, ite_self, n25, n20, n24, n100, rg22 H, ra22 H, e2, nI_add, nI_ltI, q, lt12, nI_leI, q2]
  · intro n i a hl hi
    have q : ¬ cB σ c + p < i := by unfold rgM at hi; omega
    have q2 : ¬ 12 ≤ i := by unfold rgM at hi; omega
    have q3 := h1 i (by omega)
    have q4 : sp (x / 25) (ss i) i < 768 := by
      have := sp_lt (n := 4) (show x / 25 < 4 by omega) q3 (show i < 12 by omega)
      omega
    have hl2 : lushR σ G g ss i = G (sp (x / 25) (ss i) i) := by
      unfold lushR
      rw [ex, hxc]
    have hd : nI x / 25 = nI (x / 25) := by
      rw [lt25]
      exact nI_div (by omega) (by decide)
    rw [hl2]
    generalize x / 25 = y at q4 hd
    have hv : xia h 112 (768 * nI t + nI (sp y (ss i) i)) = some (G (sp y (ss i) i)) := by
      rw [lt768, nI_mul, nI_add, ra12 H (by omega), T.2.2 _ q4]
    have hz : ¬ ((25 : Nat) = 0) := by decide
    show f_X12_greenOf_b14_body h N (f_X12_greenOf_b14 h N n) 100 (nI t) (nI c) (nI g) (nI s) (nI p) a (nI i) = _
    unfold f_X12_greenOf_b14_body
    rw [rg22 H, obs, ra22 H hc, obs, e2, nI_add, if_neg (fun z => q ((nI_ltI (by omega) (by omega)).mp z)), lt12, if_neg (fun z => q2 ((nI_leI (by omega) (by omega)).mp z)), rg12 H, obs, rg1 H, obs, ra1 H hg, obs, if_neg hz, r_seasonOf H A (by omega), obs, ex, hd, r_spotOf, obs, hv, obs]
    unfold f_X12_greenOf_b84
    by_cases q5 : G (sp y (ss i) i) ≤ a
    · rw [if_pos q5, if_pos q5, nI_1]
    · rw [if_neg q5, if_neg q5, nI_1]
theorem r_isSo (H : RS h σ) (W : CT σ) (T : TB σ t R G) (A : AL σ s ss) {g c p k : Nat} (hg : g < 8) (hx : bd (σ.2 1 g) 100) (hc : c < 32) (hw : CW σ c) (hp : p < 6) (hk : k < 4) (hN : 100 < N) : f_X12_isSo h N 100 (nI t) (nI c) (nI g) (nI s) (nI p) (nI k) = some (if soW σ (wetR σ R g ss) (lushR σ G g ss) c p (σ.2 25 k) then 1 else 0) := by
  have hb : ∀ v, f_X12_isSo_b116 h N 100 (nI c) v = some (if cmpW σ c v then 1 else 0) := by
    intro v
    by_cases q1 : σ.2 24 c = 0 <;> by_cases q2 : v ≤ σ.2 23 c <;> by_cases q3 : σ.2 23 c ≤ v <;> simp (disch := omega) only [f_X12_isSo_b116, cmpW, obs, b10, b01, bm, if_true_, if_false_, eq_self, not_true_eq_false, not_false_eq_true, true_or, or_true, or_false, false_or, and_true, true_and, and_false, false_and, or_self, and_self, Bool.false_eq_true, ite_self, n25, n20, n24, n100, rg24 H, ra24 H, rg23 H, ra23 H, q1, q2, q3, decide_true, decide_false, Bool.not_true, Bool.not_false]
  obtain ⟨e1, e2, e3, e4⟩ := id hw
  by_cases k8 : σ.2 20 c = 8
  · simp (disch := first | omega | assumption) only [f_X12_isSo, soW, obs, b10, b01, bm, if_true_, if_false_, eq_self, not_true_eq_false, not_false_eq_true, true_or, or_true, or_false, false_or, and_true, true_and, and_false, false_and, or_self, and_self, Bool.false_eq_true, ite_self, n25, n20, n24, n100, RS.kk H, rg20 H, ra20 H, k8, r_sumOf H W T A, hb]
  · by_cases k9 : σ.2 20 c = 9
    · have z : ((9 : Int32) = 8) = False := by decide
      simp (disch := first | omega | assumption) only [f_X12_isSo, soW, obs, b10, b01, bm, if_true_, if_false_, eq_self, not_true_eq_false, not_false_eq_true, true_or, or_true, or_false, false_or, and_true, true_and, and_false, false_and, or_self, and_self, Bool.false_eq_true, ite_self, n25, n20, n24, n100, RS.kk H, rg20 H, ra20 H, k9, z, r_dryOf H W T A, hb]
    · by_cases k10 : σ.2 20 c = 10
      · have z : ((10 : Int32) = 8) = False := by decide
        have z2 : ((10 : Int32) = 9) = False := by decide
        by_cases q : grnW (lushR σ G g ss) (cA σ c + p) (rgM σ c p) = -1
        · simp (disch := first | omega | assumption) only [f_X12_isSo, soW, obs, b10, b01, bm, if_true_, if_false_, eq_self, not_true_eq_false, not_false_eq_true, true_or, or_true, or_false, false_or, and_true, true_and, and_false, false_and, or_self, and_self, Bool.false_eq_true, ite_self, n25, n20, n24, n100, RS.kk H, rg20 H, ra20 H, k10, z, z2, r_greenOf H T A, hb, q, decide_true, Bool.not_true, Bool.false_and]
        · simp (disch := first | omega | assumption) only [f_X12_isSo, soW, obs, b10, b01, bm, if_true_, if_false_, eq_self, not_true_eq_false, not_false_eq_true, true_or, or_true, or_false, false_or, and_true, true_and, and_false, false_and, or_self, and_self, Bool.false_eq_true, ite_self, n25, n20, n24, n100, RS.kk H, rg20 H, ra20 H, k10, z, z2, r_greenOf H T A, hb, q, decide_false, Bool.not_false, Bool.true_and]
      · by_cases q : cA σ c + p < 12
        · simp (disch := first | omega | assumption) only [f_X12_isSo, soW, obs, b10, b01, bm, if_true_, if_false_, eq_self, not_true_eq_false, not_false_eq_true, true_or, or_true, or_false, false_or, and_true, true_and, and_false, false_and, or_self, and_self, Bool.false_eq_true, ite_self, n25, n20, n24, n100, RS.kk H, rg20 H, ra20 H, rg21 H, ra21 H, e1, nI_add, lt12, nI_ltI, k8, k9, k10, r_sumOf H W T A, hb, q, decide_true, Bool.true_and]
        · simp (disch := first | omega | assumption) only [f_X12_isSo, soW, obs, b10, b01, bm, if_true_, if_false_, eq_self, not_true_eq_false, not_false_eq_true, true_or, or_true, or_false, false_or, and_true, true_and, and_false, false_and, or_self, and_self, Bool.false_eq_true, ite_self, n25, n20, n24, n100, RS.kk H, rg20 H, ra20 H, rg21 H, ra21 H, e1, nI_add, lt12, nI_ltI, k8, k9, k10, hb, q, decide_false, Bool.false_and]
theorem r_payOf (H : RS h σ) (W : CT σ) (T : TB σ t R G) (A : AL σ s ss) {g u p k : Nat} (hg : g < 8) (hx : bd (σ.2 1 g) 100) (hu : u < 8) (hw : TW σ u) (hp : p < 6) (hk : k < 4) (hN : 100 < N) : f_X12_payOf h N 100 (nI t) (nI u) (nI g) (nI s) (nI p) (nI k) = some (payW σ (wetR σ R g ss) (lushR σ G g ss) u p (σ.2 25 k)) := by
  obtain ⟨⟨c1, c2, c3⟩, cw, ck, -, -, -⟩ := hw
  have h62 : ∀ v, f_X12_payOf_b62 h N 100 (nI u) v = some (if σ.2 18 u ≤ v then σ.2 18 u else v) := by
    intro v
    by_cases q : σ.2 18 u ≤ v <;> simp (disch := omega) only [f_X12_payOf_b62, obs, b10, b01, bm, if_true_, if_false_, eq_self, not_true_eq_false, not_false_eq_true, true_or, or_true, or_false, false_or, and_true, true_and, and_false, false_and, or_self, and_self, Bool.false_eq_true, ite_self, n25, n20, n24, n100, rg18 H, ra18 H, q]
  have l4 : (4 : Int32) * nI u = nI (4 * u) := by rw [lt4, nI_mul]
  unfold payW
  rcases ck with ⟨r0, ck⟩ | ⟨r1, ⟨j, hj, ej⟩⟩
  · rw [if_pos r0]
    simp (disch := omega) only [f_X12_payOf, obs, b10, b01, bm, if_true_, if_false_, eq_self, not_true_eq_false, not_false_eq_true, true_or, or_true, or_false, false_or, and_true, true_and, and_false, false_and, or_self, and_self, Bool.false_eq_true, ite_self, n25, n20, n24, n100, RS.kk H, rg14 H, ra14 H, r0, l4]
    rw [lpG (fun n i => f_X12_payOf_b95 h N n 100 (nI t) (nI u) (nI g) (nI s) (nI p) (nI k) 1 (nI i)) (fun c => soW σ (wetR σ R g ss) (lushR σ G g ss) c p (σ.2 25 k) = false) (4 * u) (4 * u + cs σ u) (fun o => some (if o = none then σ.2 15 u else 0)) ?_ ?_ (m := cs σ u) rfl (by omega) (Nat.le_refl _)]
    · intro n
      simp (disch := omega) only [f_X12_payOf_b95, f_X12_payOf_b95_body, f_X12_payOf_b137, obs, b10, b01, bm, if_true_, if_false_, eq_self, not_true_eq_false, not_false_eq_true, true_or, or_true, or_false, false_or, and_true, true_and, and_false, false_and, or_self, and_self, Bool.false_eq_true, ite_self, n25, n20, n24, n100, rg19 H, ra19 H, c1, l4, nI_add, nI_leI, Nat.le_refl, rg15 H, ra15 H]
    · intro n i hi2 hi
      have hn : ¬ 4 * u + cs σ u ≤ i := by omega
      have hci : CW σ i := by
        have := cw (i - 4 * u) (by omega)
        rwa [show 4 * u + (i - 4 * u) = i by omega] at this
      rcases q : soW σ (wetR σ R g ss) (lushR σ G g ss) i p (σ.2 25 k) with _ | _
      · simp (disch := first | omega | assumption) only [f_X12_payOf_b95, f_X12_payOf_b95_body, f_X12_payOf_b137, obs, b10, b01, bm, if_true_, if_false_, eq_self, not_true_eq_false, not_false_eq_true, true_or, or_true, or_false, false_or, and_true, true_and, and_false, false_and, or_self, and_self, Bool.false_eq_true, ite_self, n25, n20, n24, n100, rg19 H, ra19 H, c1, l4, nI_add, nI_leI, hn, r_isSo H W T A, q, nI_1, reduceCtorEq, ite_self]
      · simp (disch := first | omega | assumption) only [f_X12_payOf_b95, f_X12_payOf_b95_body, obs, b10, b01, bm, if_true_, if_false_, eq_self, not_true_eq_false, not_false_eq_true, true_or, or_true, or_false, false_or, and_true, true_and, and_false, false_and, or_self, and_self, Bool.false_eq_true, ite_self, n25, n20, n24, n100, rg19 H, ra19 H, c1, l4, nI_add, nI_leI, hn, r_isSo H W T A, q, nI_1, Bool.true_eq_false]
  · have r10 : ¬ σ.2 14 u = 0 := by rw [r1]; decide
    have e16 : ¬ σ.2 16 u = 0 := by
      intro e
      have h2 := congrArg Int32.toInt ej
      rw [e, nI_toInt (by omega), show ((0 : Int32) - 1).toInt = -1 by decide] at h2
      omega
    rw [if_neg r10]
    have hs := r_sumOf H W T A hg (show 4 * u < 32 by omega) (cw 0 (by omega)) hp hN
    by_cases q : σ.2 17 u ≤ sumW (wetR σ R g ss) (cA σ (4 * u) + p) (rgM σ (4 * u) p)
    · simp (disch := omega) only [f_X12_payOf, obs, b10, b01, bm, if_true_, if_false_, eq_self, not_true_eq_false, not_false_eq_true, true_or, or_true, or_false, false_or, and_true, true_and, and_false, false_and, or_self, and_self, Bool.false_eq_true, ite_self, n25, n20, n24, n100, RS.kk H, rg14 H, ra14 H, r10, l4, hs, rg17 H, ra17 H, q, h62]
    · simp (disch := omega) only [f_X12_payOf, obs, b10, b01, bm, if_true_, if_false_, eq_self, not_true_eq_false, not_false_eq_true, true_or, or_true, or_false, false_or, and_true, true_and, and_false, false_and, or_self, and_self, Bool.false_eq_true, ite_self, n25, n20, n24, n100, RS.kk H, rg14 H, ra14 H, r10, l4, hs, rg17 H, ra17 H, rg15 H, ra15 H, rg16 H, ra16 H, e16, q, h62]
end
