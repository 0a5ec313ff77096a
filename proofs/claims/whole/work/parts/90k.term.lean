/-! ===== the reference's term ===== -/
section
variable {L N : Nat} {xs : Nat → Int32} {h h' h0 h1 h2 : AH} {σ σ' y : SG} {tr : Nat → Nat} {u n b t c : Nat} {s : Nat × Bool}
def RV (y σ : SG) (t : Nat) : Prop := y.2 14 t = bI (isRateT σ) ∧ (isRateT σ = true → y.2 15 t = (rn1 σ (0, false)).1 ∧ y.2 16 t = (rn2 σ (0, false)).1 ∧ y.2 17 t = (rn3 σ (0, false)).1 ∧ y.2 18 t = (rn4 σ (0, false)).1 ∧ y.2 19 t = 1 ∧ y.2 21 (4 * t) = (rA σ (0, false)).1 ∧ y.2 22 (4 * t) = (rB σ (0, false)).1) ∧ (isRateT σ = false → y.2 15 t = (pyn σ (0, false)).1 ∧ y.2 19 t = nI (gP σ (0, false)).1 ∧ ∀ j, j < (gP σ (0, false)).1 → colR y σ (4 * t + j) (sq σ j (py3 σ (0, false))))
def kA (σ : SG) : Nat := if isRateT σ = true then 1 else (gP σ (0, false)).1
def Af (σ : SG) (i : Nat) : Int32 := if isRateT σ = true then (rA σ (0, false)).1 else (q2 σ (sq σ i (py3 σ (0, false)))).1
def Bf (σ : SG) (i : Nat) : Int32 := if isRateT σ = true then (rB σ (0, false)).1 else (q4 σ (sq σ i (py3 σ (0, false)))).1
def sndA (σ : SG) : Bool := okS (Af σ) (Bf σ) (kA σ) 0 && (!isRateT σ || !decide ((rn2 σ (0, false)).1 ≤ 0))
theorem YPB.trans {y1 y2 : SG} (F : YPB t y y1) (G : YPB t y1 y2) : YPB t y y2 := ⟨fun k => (G.1 k).trans (F.1 k), fun k j h1 h2 => (G.2 k j h1 h2).trans (F.2 k j h1 h2)⟩
theorem gL_end : ∀ (m : Nat) (s : Nat × Bool), (gL σ m s).2.1 = true → cn σ 63 ≤ (gL σ m s).2.2
  | 0, s, e => by
    unfold gL at e ⊢
    by_cases q : (q8 σ s).2.2 = true
    · rw [if_pos q] at e; cases e
    · rw [if_neg q] at e ⊢
      exact of_decide_eq_true e
  | m + 1, s, e => by
    unfold gL at e ⊢
    by_cases q : (q8 σ s).2.2 = true
    · rw [if_pos q] at e; cases e
    · rw [if_neg q] at e ⊢
      by_cases q2 : cn σ 63 ≤ (q8 σ s).2.1
      · rw [if_pos q2]; exact q2
      · rw [if_neg q2] at e ⊢
        by_cases q3 : (nxt σ s).2 = true
        · rw [if_pos q3] at e; cases e
        · rw [if_neg q3] at e ⊢
          exact gL_end m (nxt σ s) e
theorem kA_le (ha : accA σ = true) : 1 ≤ kA σ ∧ kA σ ≤ 4 := by
  unfold kA
  rcases e : isRateT σ
  · rw [if_neg (by decide)]
    unfold accA at ha
    rw [e, if_neg (by decide)] at ha
    unfold gP at ha ⊢
    by_cases q : (py3 σ (0, false)).2 = true
    · rw [if_pos q] at ha; cases ha
    · rw [if_neg q]
      exact gL_n 3 _
  · rw [if_pos rfl]; omega
theorem RV.A (V : RV y σ t) {i : Nat} (hi : i < kA σ) : y.2 21 (4 * t + i) = Af σ i ∧ y.2 22 (4 * t + i) = Bf σ i := by
  obtain ⟨-, v1, v2⟩ := V
  unfold kA at hi
  unfold Af Bf
  rcases e : isRateT σ
  · rw [e, if_neg (by decide)] at hi
    rw [if_neg (by decide), if_neg (by decide)]
    have := (v2 e).2.2 i hi
    exact ⟨this.2.1, this.2.2.1⟩
  · rw [e, if_pos rfl] at hi
    have : i = 0 := by omega
    subst this
    rw [if_pos rfl, if_pos rfl]
    exact ⟨(v1 e).2.2.2.2.2.1, (v1 e).2.2.2.2.2.2⟩
theorem RV.k (V : RV y σ t) : y.2 19 t = nI (kA σ) := by
  obtain ⟨-, v1, v2⟩ := V
  unfold kA
  rcases e : isRateT σ
  · rw [if_neg (by decide)]; exact (v2 e).2.1
  · rw [if_pos rfl]; exact (v1 e).2.2.2.2.1
theorem r_good (H : RS h y) (V : RV y σ t) (ha : accA σ = true) (ht : t < 8) (hN : 100 < N) : f_X12_isGood h N 100 (nI t) = some (bI (sndA σ)) := by
  have hk := kA_le ha
  have e4 : (4 : Int32) * nI t = nI (4 * t + 0) := by rw [show (4 : Int32) = nI 4 by decide, nI_mul, Nat.add_zero]
  have gl := fun f => r_goodL (N := N) (A := Af σ) (B := Bf σ) (k := kA σ) H hk.2 ht V.k (fun i hi => (V.A hi).1) (fun i hi => (V.A hi).2) (kA σ) 0 N f (by omega) (by omega)
  have g1 : f_X12_isGood_b28 h N N 100 (nI t) 1 (nI (4 * t + 0)) = _ := gl true
  have g0 : f_X12_isGood_b28 h N N 100 (nI t) 0 (nI (4 * t + 0)) = _ := gl false
  unfold f_X12_isGood f_X12_isGood_b18 f_X12_isGood_b23
  rw [if_pos H.1, rg14 H, obs, ra14 H ht, obs, V.1, e4, g1, g0, rg16 H, obs, ra16 H ht, obs]
  unfold sndA
  rcases e : isRateT σ
  · rw [if_pos (show bI false = 0 by rfl)]
    rcases o : okS (Af σ) (Bf σ) (kA σ) 0 <;> simp [bI]
  · rw [if_neg (show ¬ bI true = 0 by decide), (V.2.1 e).2.1]
    by_cases q : (rn2 σ (0, false)).1 ≤ 0
    · rw [if_pos q]
      rcases o : okS (Af σ) (Bf σ) (kA σ) 0 <;> simp [bI, q]
    · rw [if_neg q]
      rcases o : okS (Af σ) (Bf σ) (kA σ) 0 <;> simp [bI, q]
def finS (y : SG) (p : Nat) (f : Bool) : SG := s1 (tS y (p, f)) 63 0
def resV (σ : SG) (t : Nat) : Int32 := if accA σ = true then (if sndA σ = true then nI t else -2) else -10 - nI (posA σ)
theorem r_term (H : RS h σ) (X : TX σ) (hc : σ.1 13 = nI t) (ht : t < 8) (hN : 1000 < N) (b17 : bd (σ.2 17 t) 10000 ∧ bd (σ.2 18 t) 10000) : ∃ h2 y f, f_X12_term h N 100 = some (resV σ t, h2) ∧ FRc h h2 ∧ YPB t σ y ∧ (bd (y.2 17 t) 10000 ∧ bd (y.2 18 t) 10000) ∧ (accA σ = true → RV y σ t) ∧ RS h2 (if accA σ = true ∧ sndA σ = true then s1 (finS y (posA σ) f) 13 (nI (t + 1)) else finS y (posA σ) f) := by
  have Ha : RS (sfi (sfi h 100 69 0) 100 70 0) (tS σ (0, false)) := (H.fi 69 0).fi 70 0
  obtain ⟨hA, eA⟩ : ∃ hA, hA = sfi (sfi h 100 69 0) 100 70 0 := ⟨_, rfl⟩
  have FA : FRc h hA := by rw [eA]; exact FRc.f.trans FRc.f
  rw [← eA] at Ha
  have Y0 : TY σ σ := ⟨rfl, rfl, rfl⟩
  have bt := R_byte X Y0 Ha (Nat.zero_le _)
  have w := rw14 Ha (n := t) (x := bI (isRateT σ)) (by cases isRateT σ <;> decide) ht
  have Hb : RS (sai hA 114 t (bI (isRateT σ))) (tS (s2 σ 14 t (bI (isRateT σ))) (0, false)) := by rw [← tS_s2]; exact w.2
  have Yb : TY σ (s2 σ 14 t (bI (isRateT σ))) := Y0.s2 (by decide) (by decide)
  have c13 : ∀ y s, y.1 13 = nI t → (tS y s).1 13 = nI t := fun y s e => by rw [tS_k (by decide) (by decide)]; exact e
  have pb : YPB t σ (s2 σ 14 t (bI (isRateT σ))) := ⟨fun _ => rfl, fun k j h1 _ => by rw [s2_ite, if_neg (by omega)]⟩
  have v14 : (s2 σ 14 t (bI (isRateT σ))).2 14 t = bI (isRateT σ) := by rw [s2_ite, if_pos ⟨rfl, rfl⟩]
  have v17 : (s2 σ 14 t (bI (isRateT σ))).2 17 = σ.2 17 := s2_row (by decide)
  have v18 : (s2 σ 14 t (bI (isRateT σ))).2 18 = σ.2 18 := s2_row (by decide)
  have w1 := w.1
  have FB : FRc h (sai hA 114 t (bI (isRateT σ))) := FA.trans (FRc.a (by omega) (by omega))
  have pre : f_X12_term h N 100 = f_X12_term_b45 N hA 100 (bI (isRateT σ)) (nI t) 114 := by
    have p1 : xpi h 100 13 69 0 = some (sfi h 100 69 0) := xpi_ok H.1
    have p2 : xpz (sfi h 100 69 0) 100 13 70 0 = some hA := by rw [eA]; unfold xpz; rw [if_pos ⟨H.1, Or.inl rfl⟩]
    have bt' : f_X12_byteAt hA 100 0 = some (tb σ 0) := bt
    unfold f_X12_term
    rw [if_pos H.1, RS.gi H, hc, obs, if_neg (by rw [show (8 : Int32) = nI 8 by decide, nI_eq (by omega) (by omega)]; omega), p1, obs, p2, obs, rg14 Ha, obs, RS.gi Ha, c13 _ _ hc, obs, bt', obs]
    by_cases q : tb σ 0 = 114
    · rw [if_pos q, show isRateT σ = true from decide_eq_true q]; rfl
    · rw [if_neg q, show isRateT σ = false from decide_eq_false q]; rfl
  generalize sai hA 114 t (bI (isRateT σ)) = hB at w1 Hb FB
  generalize s2 σ 14 t (bI (isRateT σ)) = yB at Hb Yb pb v14 v17 v18
  have cB : yB.1 13 = nI t := by rw [pb.1]; exact hc
  -- the middle: what was read
  have mid : ∃ h3 y3 f3, f_X12_term h N 100 = f_X12_term_b77 N h3 100 ∧ RS h3 (tS y3 (posA σ, f3)) ∧ FRc h h3 ∧ YPB t σ y3 ∧ (bd (y3.2 17 t) 10000 ∧ bd (y3.2 18 t) 10000) ∧ (accA σ = true → f3 = false ∧ cn σ 63 ≤ posA σ ∧ RV y3 σ t) ∧ (accA σ = false → f3 = true ∨ posA σ < cn σ 63) ∧ posA σ ≤ cn σ 63 := by
    have b45 : f_X12_term_b45 N hA 100 (bI (isRateT σ)) (nI t) 114 = (if bI (isRateT σ) = 0 then (f_X12_readsPay hB N 100 (nI t)).bind fun q15 => f_X12_term_b77 N q15 100 else (f_X12_readsRate hB N 100 (nI t)).bind fun q17 => f_X12_term_b77 N q17 100) := by
      unfold f_X12_term_b45
      rw [w1, obs, rg14 Hb, obs, RS.gi Hb, c13 _ _ cB, obs, ra14 Hb ht, tS_2, v14, obs, obs, obs]
    rcases er : isRateT σ
    · have ep : posA σ = (gP σ (0, false)).2.2 := by unfold posA; rw [er, if_neg (by decide)]
      have ea : accA σ = (gP σ (0, false)).2.1 := by unfold accA; rw [er, if_neg (by decide)]
      obtain ⟨h3, y3, f3, r3, H3, F3, P3, ⟨g14, g17, g18⟩, a1, a2⟩ := r_pay (N := N) X Yb Hb (Nat.zero_le _) ht hN
      rw [← ep] at H3 a2
      rw [← ea] at a1 a2
      refine ⟨h3, y3, f3, ?_, H3, FB.trans F3, pb.trans P3, ?_, fun z => ?_, a2, ?_⟩
      · rw [pre, b45, er, if_pos (show bI false = 0 by rfl), r3, obs]
      · rw [g17, g18, v17, v18]; exact b17
      · obtain ⟨z1, z2, z3, z4⟩ := a1 z
        refine ⟨z1, ?_, ⟨by rw [g14, v14], fun z => (by rw [er] at z; cases z), fun _ => ⟨z2, z3, z4⟩⟩⟩
        have acc : (gP σ (0, false)).2.1 = true := by rw [← ea]; exact z
        rw [ep]
        unfold gP at acc ⊢
        by_cases q : (py3 σ (0, false)).2 = true
        · rw [if_pos q] at acc; cases acc
        · rw [if_neg q] at acc ⊢
          exact gL_end 3 _ acc
      · rw [ep]
        unfold gP
        have l3 : (py3 σ (0, false)).1 ≤ cn σ 63 := W_le (by omega) (N_le (W_le (by omega) (Nat.zero_le _)))
        by_cases q : (py3 σ (0, false)).2 = true
        · rw [if_pos q]; exact l3
        · rw [if_neg q]; exact gL_le 3 _ l3
    · have ep : posA σ = (rn4 σ (0, false)).2.1 := by unfold posA; rw [er, if_pos rfl]
      have ea : accA σ = (!(rn4 σ (0, false)).2.2 && decide (cn σ 63 ≤ (rn4 σ (0, false)).2.1)) := by unfold accA; rw [er, if_pos rfl]
      obtain ⟨h3, r3, H3, F3⟩ := r_rate (N := N) X Yb Hb (Nat.zero_le _) ht (by omega)
      have yr : ∀ k j, ¬ (15 ≤ k ∧ k ≤ 19 ∧ j = t) → ¬ (21 ≤ k ∧ k ≤ 22 ∧ j = 4 * t) → (Yr yB σ t (0, false)).2 k j = yB.2 k j := fun k j h1 h2 => by
        unfold Yr
        rw [s2_ite, if_neg (by omega), s2_ite, if_neg (by omega), s2_ite, if_neg (by omega), s2_ite, if_neg (by omega), s2_ite, if_neg (by omega), s2_ite, if_neg (by omega), s2_ite, if_neg (by omega)]
      have x15 : (Yr yB σ t (0, false)).2 15 t = (rn1 σ (0, false)).1 := by unfold Yr; simp [s2_ite]
      have x16 : (Yr yB σ t (0, false)).2 16 t = (rn2 σ (0, false)).1 := by unfold Yr; simp [s2_ite]
      have x17 : (Yr yB σ t (0, false)).2 17 t = (rn3 σ (0, false)).1 := by unfold Yr; simp [s2_ite]
      have x18 : (Yr yB σ t (0, false)).2 18 t = (rn4 σ (0, false)).1 := by unfold Yr; simp [s2_ite]
      have x19 : (Yr yB σ t (0, false)).2 19 t = 1 := by unfold Yr; simp [s2_ite]
      have x21 : (Yr yB σ t (0, false)).2 21 (4 * t) = (rA σ (0, false)).1 := by unfold Yr; simp [s2_ite]
      have x22 : (Yr yB σ t (0, false)).2 22 (4 * t) = (rB σ (0, false)).1 := by unfold Yr; simp [s2_ite]
      have x14 : (Yr yB σ t (0, false)).2 14 t = bI (isRateT σ) := by rw [yr 14 t (by omega) (by omega)]; exact v14
      have yk : ∀ k, (Yr yB σ t (0, false)).1 k = yB.1 k := fun _ => rfl
      generalize Yr yB σ t (0, false) = y3 at H3 yr x15 x16 x17 x18 x19 x21 x22 x14 yk
      refine ⟨h3, y3, (rn4 σ (0, false)).2.2, ?_, ?_, FB.trans F3, pb.trans ⟨yk, fun k j h1 h2 => yr k j (by omega) (by omega)⟩, ?_, fun z => ?_, fun z => ?_, ?_⟩
      · rw [pre, b45, er, if_neg (show ¬ bI true = 0 by decide), r3, obs]
      · rw [ep]; exact H3
      · rw [x17, x18]; exact ⟨nmS_bd (by omega), nmS_bd (by omega)⟩
      · rw [ea] at z
        simp at z
        exact ⟨z.1, by rw [ep]; exact z.2, ⟨x14, fun _ => ⟨x15, x16, x17, x18, x19, x21, x22⟩, fun z => (by rw [er] at z; cases z)⟩⟩
      · rw [ea] at z
        rw [ep]
        rcases e : (rn4 σ (0, false)).2.2
        · right
          rw [e] at z
          simp at z
          exact z
        · left; rfl
      · rw [ep]
        exact N_le (W_le (by omega) (N_le (W_le (by omega) (N_le (W_le (by omega) (N_le (W_le (by omega) (N_le (W_le (by omega) (N_le (W_le (by omega) (Nat.zero_le _))))))))))))
  obtain ⟨h3, y3, f3, r3, H3, F3, P3, B3, a1, a2, lp⟩ := mid
  have c3 : y3.1 13 = nI t := by rw [P3.1]; exact hc
  have c63 : y3.1 63 = nI (cn σ 63) := by rw [P3.1]; exact X.1
  have hl := X.2.1
  have b101 : ∀ f, f_X12_term_b101 N h3 100 (bI f) 100 = (if bI f = 0 then (f_X12_isGood (sfi (sfi h3 100 70 (bI f)) 100 63 0) N 100 (nI t)).bind fun v28 => (if v28 = 0 then some ((-2), sfi (sfi h3 100 70 (bI f)) 100 63 0) else some (nI t, sfi (sfi (sfi h3 100 70 (bI f)) 100 63 0) 100 13 (nI (t + 1)))) else some (-10 - nI (posA σ), sfi (sfi h3 100 70 (bI f)) 100 63 0)) ∧ RS (sfi (sfi h3 100 70 (bI f)) 100 63 0) (finS y3 (posA σ) f) ∧ RS (sfi (sfi (sfi h3 100 70 (bI f)) 100 63 0) 100 13 (nI (t + 1))) (s1 (finS y3 (posA σ) f) 13 (nI (t + 1))) := by
    intro f
    have G1 : RS (sfi h3 100 70 (bI f)) (tS y3 (posA σ, f)) := by
      have := H3.fi 70 (bI f)
      rwa [tS_w70] at this
    have G2 : RS (sfi (sfi h3 100 70 (bI f)) 100 63 0) (finS y3 (posA σ) f) := G1.fi 63 0
    have G3 := G2.fi 13 (nI (t + 1))
    refine ⟨?_, G2, G3⟩
    have g13 : (finS y3 (posA σ) f).1 13 = nI t := by
      unfold finS
      rw [s1_ne (by decide)]; exact c13 _ _ c3
    have g70 : (finS y3 (posA σ) f).1 70 = bI f := by unfold finS; rw [s1_ne (by decide)]; rfl
    have g69 : (finS y3 (posA σ) f).1 69 = nI (posA σ) := by unfold finS; rw [s1_ne (by decide)]; rfl
    have k13 : (s1 (finS y3 (posA σ) f) 13 (nI (t + 1))).1 13 = nI (t + 1) := s1_eq
    unfold f_X12_term_b101
    rw [xpz_ok H3.1, obs, xpi_ok G1.1, obs, RS.gi G2, g70, obs, RS.gi G2, g13, obs, obs, nI_1, xpi_ok G2.1, obs, RS.gi G3, k13, obs, nI_pred, RS.gi G2, g69, obs]
  have b77 : f_X12_term_b77 N h3 100 = f_X12_term_b101 N h3 100 (bI (!accA σ)) 100 := by
    unfold f_X12_term_b77 f_X12_term_b96
    rw [RS.gi H3, tS_70, obs, RS.gi H3, tS_69, obs, RS.gi H3, tS_k (by decide) (by decide), c63, obs]
    rcases ea : accA σ
    · rcases f3
      · rw [if_pos (show bI false = 0 by rfl)]
        rcases a2 ea with z | z
        · cases z
        · rw [if_neg (by rw [nI_eq (by omega) (by omega)]; show ¬ posA σ = cn σ 63; omega)]; rfl
      · rw [if_neg (show ¬ bI true = 0 by decide)]; rfl
    · obtain ⟨z1, z2, -⟩ := a1 ea
      subst z1
      rw [if_pos (show bI false = 0 by rfl), if_pos (show nI (posA σ) = nI (cn σ 63) by rw [show posA σ = cn σ 63 by omega])]; rfl
  obtain ⟨e1, G2, G3⟩ := b101 (!accA σ)
  rcases ea : accA σ
  · rw [ea] at e1 G2 b77
    refine ⟨_, y3, true, ?_, F3.trans (FRc.f.trans FRc.f), P3, B3, fun z => (by cases z), by rw [if_neg (fun z => (by cases z.1))]; exact G2⟩
    unfold resV
    rw [ea, if_neg (by decide), r3, b77, e1]
    rfl
  · have V := (a1 ea).2.2
    rw [ea] at e1 G2 G3 b77
    have Vf : RV (finS y3 (posA σ) false) σ t := V
    have gd := r_good (N := N) G2 Vf ea ht (by omega)
    rcases es : sndA σ
    · refine ⟨_, y3, false, ?_, F3.trans (FRc.f.trans FRc.f), P3, B3, fun _ => V, by rw [if_neg (fun z => (by cases z.2))]; exact G2⟩
      unfold resV
      rw [ea, if_pos rfl, es, if_neg (by decide), r3, b77, e1, if_pos (show bI (!true) = 0 by rfl), gd, obs, es, if_pos (show bI false = 0 by rfl)]
    · refine ⟨_, y3, false, ?_, F3.trans ((FRc.f.trans FRc.f).trans FRc.f), P3, B3, fun _ => V, by rw [if_pos ⟨rfl, rfl⟩]; exact G3⟩
      unfold resV
      rw [ea, if_pos rfl, es, if_pos rfl, r3, b77, e1, if_pos (show bI (!true) = 0 by rfl), gd, obs, es, if_neg (show ¬ bI true = 0 by decide)]
end
