/-! ===== prices ===== -/
section
variable {L N : Nat} {xs : Nat → Int32} {h h' : AH} {σ σ' : SG} {tr : Nat → Nat} {u n : Nat}

theorem pay_bd {wt ls : Nat → Int32} {t p : Nat} {dr : Int32} (hw : TW σ t) (hb : ∀ w, w < 12 → bd (wt w) 10000) (hp : p < 6) : bd (payW σ wt ls t p dr) 10000 := by
  obtain ⟨⟨c1, c2, c3⟩, cw, ck, b15, b17, b18⟩ := hw
  obtain ⟨e1, e2, e3, e4⟩ := cw 0 (by omega)
  rw [Nat.add_zero] at e1 e2 e3 e4
  unfold payW
  by_cases r0 : σ.2 14 t = 0
  · rw [if_pos r0]
    split
    · exact b15
    · exact ⟨0, by omega, lt0⟩
  · rw [if_neg r0]
    rcases ck with ⟨q, _⟩ | ⟨_, ⟨j, hj, ej⟩⟩
    · exact absurd q r0
    · have e16 : σ.2 16 t = nI (j + 1) := by
        have : σ.2 16 t - 1 + 1 = nI j + 1 := by rw [ej]
        rwa [Int32.sub_add_cancel, nI_1] at this
      obtain ⟨S, hS, eS⟩ := sumW_bd (wt := wt) (a := cA σ (4 * t) + p) (m := rgM σ (4 * t) p) (fun w h1 h2 => hb w (by unfold rgM at h2; omega))
      have hr : rgM σ (4 * t) p ≤ 12 := by unfold rgM; omega
      obtain ⟨nn, hn, en⟩ := b15
      obtain ⟨mm, hm, em⟩ := b17
      obtain ⟨pp, hpp, epp⟩ := b18
      rw [eS, em, en, epp, e16]
      by_cases q : nI mm ≤ nI S
      · rw [if_pos q]
        split
        · exact ⟨pp, hpp, rfl⟩
        · exact ⟨0, by omega, lt0⟩
      · rw [if_neg q]
        rw [nI_leI (by omega) (by omega)] at q
        rw [nI_sub (by omega), nI_div (by omega) (by omega), nI_mul]
        have hv : nn * ((mm - S) / (j + 1)) ≤ 9999 * 9999 := Nat.mul_le_mul (by omega) (Nat.le_trans (Nat.div_le_self _ _) (by omega))
        split
        · exact ⟨pp, hpp, rfl⟩
        · rename_i q2
          rw [nI_leI (by omega) (by omega)] at q2
          exact ⟨_, by omega, rfl⟩
abbrev R0 (σ : SG) : Nat → Int32 := vK σ (cn σ 7)
abbrev G0 (σ : SG) : Nat → Int32 := GK σ (cn σ 7)
def payN (σ : SG) (g t p k s : Nat) : Nat := (payAt σ (R0 σ) (G0 σ) g s t p k).toNatClampNeg
theorem payN_ok (W : WV σ) {g t p k s : Nat} (ht : t < cn σ 13) (hp : p < 6) : payN σ g t p k s < 10000 ∧ payAt σ (R0 σ) (G0 σ) g s t p k = nI (payN σ g t p k s) := by
  obtain ⟨a, b⟩ := bd_cl (pay_bd (ls := lushR σ (G0 σ) g (fun _ => s)) (dr := σ.2 25 k) (W.2.2.2.2.2 t ht) (fun w _ => filled_bd (vK_RB W.2.2.2.1 (cn σ 7)) g s w) hp) (by decide)
  exact ⟨b, a⟩
theorem r_payN (H : RS h σ) (W : WV σ) {g t p k s : Nat} (ht : t < cn σ 13) (hg : g < cn σ 0) (hs : s < 16) (hp : p < 6) (hk : k < 4) (hN : 100 < N) : f_X12_payOf h N 100 0 (nI t) (nI g) (nI s) (nI p) (nI k) = some (nI (payN σ g t p k s)) := by
  have hG := W.1.g
  have hT := W.1.t
  rw [← (payN_ok W ht hp).2]
  exact r_payOf H W.1 (TB0 W) (AL0 W hs) (by omega) (wv1 W hg) (by omega) (W.2.2.2.2.2 t ht) hp hk hN
theorem c_payN (C : CS h σ tr u) (W : WV σ) {g t p k s : Nat} (ht : t < cn σ 13) (hg : g < cn σ 0) (hs : s < 16) (hp : p < 6) (hk : k < 4) (hN : 1000 < N) : ∃ h', f_X11_payOn h N 1 (nI t) (nI g) (nI s) (nI p) (nI k) (nI (cn σ 7)) = some (nI (payN σ g t p k s), h') ∧ SCR h h' ∧ ai h' 28 = ai h 28 ∧ ai h' 29 = ai h 29 := by
  have hTl := W.1.tl
  rw [← (payN_ok W ht hp).2]
  exact c_payOn C W ht hg hs hp hk (by omega) hN
def knS (σ : SG) (g s w : Nat) (x : Nat) : Nat := if R0 σ (sp g s w) = -1 then x else x + 1
def knowO (σ : SG) (g s : Nat) : Bool := decide (6 ≤ itr (knS σ g s) 0 12 0)
theorem itr_le {st : Nat → Nat → Nat} {c : Nat} (hs : ∀ j x, st j x ≤ x + c) : ∀ {m i a : Nat}, itr st i m a ≤ a + c * m := by
  intro m
  induction m with
  | zero => intro i a; exact Nat.le_refl _
  | succ m ih =>
    intro i a
    have h1 := ih (i := i + 1) (a := st i a)
    have h2 := hs i a
    show itr st (i + 1) m (st i a) ≤ _
    rw [Nat.mul_succ]
    omega
theorem knS_le (σ : SG) (g s : Nat) : ∀ j x, knS σ g s j x ≤ x + 1 := by
  intro j x
  unfold knS
  split <;> omega
theorem r_isKnown (H : RS h σ) (W : WV σ) {g s : Nat} (hg : g < 8) (hs : s < 16) (hN : 100 < N) : f_X12_isKnown h N 100 (nI g) (nI s) = some (if knowO σ g s then 1 else 0) := by
  have T0 : ∀ {w : Nat}, w < 12 → f_X12_rainOf h 100 0 (nI g) (nI s) (nI w) = some (R0 σ (sp g s w)) := fun hw => r_rainOf H (TB0 W) hg hs hw
  unfold f_X12_isKnown
  rw [if_pos H.1]
  refine (lpA (fun n i x => f_X12_isKnown_b5 h N n 100 (nI g) (nI s) (nI x) (nI i)) (knS σ g s) 12 (fun x => some (if decide (6 ≤ x) then 1 else 0)) (fun i x => x ≤ i) ?_ ?_ 12 N 0 0 rfl (by omega) (by omega)).1
  · intro n x hx
    by_cases q : 6 ≤ x
    · have q' : ¬ x < 6 := by omega
      simp (disch := omega) only [f_X12_isKnown_b5, f_X12_isKnown_b5_body, obs, b10, b01, bm, if_true_, if_false_, eq_self, not_true_eq_false, not_false_eq_true, true_or, or_true, or_false, false_or, and_true, true_and, and_false, false_and, or_self, and_self, Bool.false_eq_true, ite_self, n25, n20, n24, n100, decide_true, decide_false, Bool.not_true, Bool.not_false, Bool.and_true, Bool.and_false, Bool.true_and, Bool.false_and, lt12, lt6, nI_leI, nI_ltI, Nat.le_refl, q, q']
    · have q' : x < 6 := by omega
      simp (disch := omega) only [f_X12_isKnown_b5, f_X12_isKnown_b5_body, obs, b10, b01, bm, if_true_, if_false_, eq_self, not_true_eq_false, not_false_eq_true, true_or, or_true, or_false, false_or, and_true, true_and, and_false, false_and, or_self, and_self, Bool.false_eq_true, ite_self, n25, n20, n24, n100, decide_true, decide_false, Bool.not_true, Bool.not_false, Bool.and_true, Bool.and_false, Bool.true_and, Bool.false_and, lt12, lt6, nI_leI, nI_ltI, Nat.le_refl, q, q']
  · intro n i x hi hx
    have hn : ¬ 12 ≤ i := by omega
    refine ⟨?_, by have := knS_le σ g s i x; omega⟩
    by_cases q : R0 σ (sp g s i) = -1 <;> simp (disch := omega) only [f_X12_isKnown_b5, f_X12_isKnown_b5_body, f_X12_isKnown_b31, obs, b10, b01, bm, if_true_, if_false_, eq_self, not_true_eq_false, not_false_eq_true, true_or, or_true, or_false, false_or, and_true, true_and, and_false, false_and, or_self, and_self, Bool.false_eq_true, ite_self, n25, n20, n24, n100, lt12, nI_leI, hn, T0, q, knS, Int32.add_zero, nI_1]
theorem c_isKnown (C : CS h σ tr u) (W : WV σ) {g s : Nat} (hg : g < 8) (hs : s < 16) (hN : 1000 < N) : f_X11_isKnown h N 1 (nI g) (nI s) = some (if knowO σ g s then 1 else 0) := by
  have hTl := W.1.tl
  unfold f_X11_isKnown
  rw [if_pos (kk1 C)]
  refine (lpA (fun n i x => f_X11_isKnown_b5 h N n 1 (nI g) (nI s) (nI x) (nI i)) (knS σ g s) 12 (fun x => some (if decide (6 ≤ x) then 1 else 0)) (fun i x => x ≤ i) ?_ ?_ 12 N 0 0 rfl (by omega) (by omega)).1
  · intro n x hx
    by_cases q : 6 ≤ x
    · have q' : ¬ x < 6 := by omega
      simp (disch := omega) only [f_X11_isKnown_b5, f_X11_isKnown_b5_body, obs, b10, b01, bm, if_true_, if_false_, eq_self, not_true_eq_false, not_false_eq_true, true_or, or_true, or_false, false_or, and_true, true_and, and_false, false_and, or_self, and_self, Bool.false_eq_true, ite_self, n25, n20, n24, n100, decide_true, decide_false, Bool.not_true, Bool.not_false, Bool.and_true, Bool.and_false, Bool.true_and, Bool.false_and, lt12, lt6, nI_leI, nI_ltI, Nat.le_refl, q, q']
    · have q' : x < 6 := by omega
      simp (disch := omega) only [f_X11_isKnown_b5, f_X11_isKnown_b5_body, obs, b10, b01, bm, if_true_, if_false_, eq_self, not_true_eq_false, not_false_eq_true, true_or, or_true, or_false, false_or, and_true, true_and, and_false, false_and, or_self, and_self, Bool.false_eq_true, ite_self, n25, n20, n24, n100, decide_true, decide_false, Bool.not_true, Bool.not_false, Bool.and_true, Bool.and_false, Bool.true_and, Bool.false_and, lt12, lt6, nI_leI, nI_ltI, Nat.le_refl, q, q']
  · intro n i x hi hx
    have hn : ¬ 12 ≤ i := by omega
    refine ⟨?_, by have := knS_le σ g s i x; omega⟩
    by_cases q : R0 σ (sp g s i) = -1 <;> simp (disch := omega) only [f_X11_isKnown_b5, f_X11_isKnown_b5_body, f_X11_isKnown_b34, obs, b10, b01, bm, if_true_, if_false_, eq_self, not_true_eq_false, not_false_eq_true, true_or, or_true, or_false, false_or, and_true, true_and, and_false, false_and, or_self, and_self, Bool.false_eq_true, ite_self, n25, n20, n24, n100, lt12, nI_leI, hn, kr1_4 C, c_now C W.1, c_asKnown C W.1, q, knS, nI_1]
def knC (σ : SG) (g s x : Nat) : Nat := if knowO σ g s then x + 1 else x
def knN (σ : SG) (g : Nat) : Nat := itr (knC σ g) 0 16 0
def pdC (σ : SG) (g t p k s x : Nat) : Nat := if knowO σ g s then x + payN σ g t p k s else x
def paidN (σ : SG) (g t p k : Nat) : Nat := itr (pdC σ g t p k) 0 16 0
theorem knN_le {g : Nat} : knN σ g ≤ 16 := by
  have := itr_le (st := knC σ g) (c := 1) (fun j x => by unfold knC; split <;> omega) (m := 16) (i := 0) (a := 0)
  unfold knN
  omega
theorem r_knowns (H : RS h σ) (W : WV σ) {g : Nat} (hg : g < 8) (hN : 100 < N) : f_X12_knowns h N 100 (nI g) = some (nI (knN σ g)) := by
  unfold f_X12_knowns
  rw [if_pos H.1]
  refine lpB (fun n i x => f_X12_knowns_b4 h N n 100 (nI g) (nI x) (nI i)) (knC σ g) 16 (fun x => some (nI x)) ?_ ?_ (m := 16) (i := 0) (a := 0) rfl (by omega)
  · intro n x
    simp (disch := omega) only [f_X12_knowns_b4, f_X12_knowns_b4_body, obs, b10, b01, bm, if_true_, if_false_, eq_self, not_true_eq_false, not_false_eq_true, true_or, or_true, or_false, false_or, and_true, true_and, and_false, false_and, or_self, and_self, Bool.false_eq_true, ite_self, n25, n20, n24, n100, lt16, nI_leI, Nat.le_refl]
  · intro n i x hi
    have hn : ¬ 16 ≤ i := by omega
    rcases q : knowO σ g i <;> simp (disch := omega) only [f_X12_knowns_b4, f_X12_knowns_b4_body, f_X12_knowns_b25, obs, b10, b01, bm, if_true_, if_false_, eq_self, not_true_eq_false, not_false_eq_true, true_or, or_true, or_false, false_or, and_true, true_and, and_false, false_and, or_self, and_self, Bool.false_eq_true, ite_self, n25, n20, n24, n100, lt16, nI_leI, hn, r_isKnown H W, q, knC, Int32.add_zero, nI_1]
theorem paid_le (W : WV σ) {g t p k : Nat} (ht : t < cn σ 13) (hp : p < 6) : paidN σ g t p k ≤ 9999 * knN σ g := by
  have : ∀ m i a b, a ≤ 9999 * b → itr (pdC σ g t p k) i m a ≤ 9999 * itr (knC σ g) i m b := by
    intro m
    induction m with
    | zero => intro i a b h; exact h
    | succ m ih =>
      intro i a b h
      refine ih (i + 1) _ _ ?_
      have := (payN_ok W (g := g) (k := k) (s := i) ht hp).1
      unfold pdC knC
      split <;> omega
  exact this 16 0 0 0 (by omega)
theorem r_paid (H : RS h σ) (W : WV σ) {g t p k : Nat} (ht : t < cn σ 13) (hg : g < cn σ 0) (hp : p < 6) (hk : k < 4) (hN : 100 < N) : f_X12_paid h N 100 (nI t) (nI g) (nI p) (nI k) = some (nI (paidN σ g t p k)) := by
  have hG := W.1.g
  unfold f_X12_paid
  rw [if_pos H.1]
  refine lpB (fun n i x => f_X12_paid_b6 h N n 100 (nI t) (nI g) (nI p) (nI k) (nI x) (nI i)) (pdC σ g t p k) 16 (fun x => some (nI x)) ?_ ?_ (m := 16) (i := 0) (a := 0) rfl (by omega)
  · intro n x
    simp (disch := omega) only [f_X12_paid_b6, f_X12_paid_b6_body, obs, b10, b01, bm, if_true_, if_false_, eq_self, not_true_eq_false, not_false_eq_true, true_or, or_true, or_false, false_or, and_true, true_and, and_false, false_and, or_self, and_self, Bool.false_eq_true, ite_self, n25, n20, n24, n100, lt16, nI_leI, Nat.le_refl]
  · intro n i x hi
    have hn : ¬ 16 ≤ i := by omega
    rcases q : knowO σ g i <;> simp (disch := omega) only [f_X12_paid_b6, f_X12_paid_b6_body, f_X12_paid_b41, obs, b10, b01, bm, if_true_, if_false_, eq_self, not_true_eq_false, not_false_eq_true, true_or, or_true, or_false, false_or, and_true, true_and, and_false, false_and, or_self, and_self, Bool.false_eq_true, ite_self, n25, n20, n24, n100, lt16, nI_leI, hn, r_isKnown H W, q, r_payN H W, pdC, nI_add, Int32.add_zero, nI_1]
def psR (σ : SG) (g t p k s : Nat) : Int32 := if knowO σ g s then nI (payN σ g t p k s) else -1
theorem c_gatherPays (C : CS h σ tr u) (W : WV σ) {g t p k : Nat} (ht : t < cn σ 13) (hg : g < cn σ 0) (hp : p < 6) (hk : k < 4) (hN : 1000 < N) : ∃ h', f_X11_gatherPays h N 1 (nI t) (nI g) (nI p) (nI k) = some (nI (knN σ g), h') ∧ SCR h h' ∧ ∀ s, s < 16 → ai h' 28 s = psR σ g t p k s := by
  have hG := W.1.g
  unfold f_X11_gatherPays
  rw [if_pos (kk1 C)]
  refine (lpS (σ := AH) (α := Nat) (fun n i h x => f_X11_gatherPays_b6 N n h 1 (nI t) (nI g) (nI p) (nI k) (nI x) (nI i)) (knC σ g) 16 (fun h' x => some (nI x, h')) (fun i h' _ => SCR h h' ∧ ∀ s, s < i → ai h' 28 s = psR σ g t p k s) ?_ ?_ 16 N 0 h 0 (by omega) (by omega) ⟨SCR.refl, fun w hw => absurd hw (by omega)⟩).elim (fun h' e => ⟨h', e.1, e.2.1, e.2.2⟩)
  · intro n h' x _
    show f_X11_gatherPays_b6_body N _ h' 1 (nI t) (nI g) (nI p) (nI k) (nI x) (nI 16) = _
    unfold f_X11_gatherPays_b6_body
    rw [if_pos (by decide)]
  · intro n i h' x hi ⟨S, hw⟩
    have C' := C.scr S
    have hn : ¬ (16 : Int32) ≤ nI i := by rw [lt16, nI_leI (by omega) (by omega)]; omega
    have S2 : SCR h' (sai h' 28 i (-1)) := SCR.w (by omega) (by omega)
    have C2 := C'.scr S2
    have x1 : xis h' 28 (nI i) (-1) = some _ := xis_of (kk28 C') (kl C' (by decide)) hi (by decide)
    rcases q : knowO σ g i
    · refine ⟨sai h' 28 i (-1), ?_, S.trans S2, ?_⟩
      · show f_X11_gatherPays_b6_body N _ h' 1 (nI t) (nI g) (nI p) (nI k) (nI x) (nI i) = _
        simp (disch := omega) only [f_X11_gatherPays_b6_body, f_X11_gatherPays_b59, obs, b10, b01, bm, if_true_, if_false_, eq_self, not_true_eq_false, not_false_eq_true, true_or, or_true, or_false, false_or, and_true, true_and, and_false, false_and, or_self, and_self, Bool.false_eq_true, ite_self, n25, n20, n24, n100, hn, kr1_18 C', x1, c_isKnown C2 W, q, knC, nI_1]
      · intro s hs
        rw [ai_sai]
        by_cases e : s = i
        · rw [if_pos ⟨rfl, e⟩, e]; unfold psR; rw [q]; rfl
        · rw [if_neg (fun z => e z.2)]; exact hw s (by omega)
    · obtain ⟨h3, e3, S3, S8, S9⟩ := c_payN (N := N) C2 W ht hg hi hp hk hN
      have C3 := C2.scr S3
      have S4 : SCR h3 (sai h3 28 i (nI (payN σ g t p k i))) := SCR.w (by omega) (by omega)
      have x2 : xis h3 28 (nI i) (nI (payN σ g t p k i)) = some _ := xis_of (kk28 C3) (kl C3 (by decide)) hi (by decide)
      refine ⟨sai h3 28 i (nI (payN σ g t p k i)), ?_, ((S.trans S2).trans S3).trans S4, ?_⟩
      · show f_X11_gatherPays_b6_body N _ h' 1 (nI t) (nI g) (nI p) (nI k) (nI x) (nI i) = _
        simp (disch := omega) only [f_X11_gatherPays_b6_body, f_X11_gatherPays_b59, obs, b10, b01, bm, if_true_, if_false_, eq_self, not_true_eq_false, not_false_eq_true, true_or, or_true, or_false, false_or, and_true, true_and, and_false, false_and, or_self, and_self, Bool.false_eq_true, ite_self, n25, n20, n24, n100, hn, kr1_18 C', kr1_18 C2, x1, c_isKnown C2 W, c_now C2 W.1, e3, x2, q, knC, nI_1]
      · intro s hs
        rw [ai_sai, S8, ai_sai]
        by_cases e : s = i
        · rw [if_pos ⟨rfl, e⟩, e]; unfold psR; rw [q]; rfl
        · rw [if_neg (fun z => e z.2), if_neg (fun z => e z.2)]; exact hw s (by omega)
end
