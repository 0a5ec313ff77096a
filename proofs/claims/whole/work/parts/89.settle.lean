/-! ===== public: settle ===== -/
section
variable {L N : Nat} {xs : Nat → Int32} {h h' h1 : AH} {σ σ' y : SG} {tr : Nat → Nat} {u n s j : Nat}
def ow (σ : SG) (s j : Nat) : Int32 := dueO σ (R0 σ) (G0 σ) j s - σ.2 34 (16 * j + s)
def pyN (σ : SG) (s : Nat) : Nat → Nat
  | 0 => 0
  | j + 1 => if ow σ s j ≤ σ.2 31 j then pyN σ s j else pyN σ s j + 1
def sA (σ : SG) (s j : Nat) (y : SG) : SG := s2 y 34 (16 * j + s) (σ.2 34 (16 * j + s) + ow σ s j)
def setT (σ : SG) (s j : Nat) (y : SG) : SG := if ow σ s j ≤ σ.2 31 j then s2 (sA σ s j y) 31 j (σ.2 31 j - ow σ s j) else ts20 (s2 (sA σ s j y) 31 j 0) (nI j) (nI s) (ow σ s j - σ.2 31 j) 0
theorem py_le : ∀ j, pyN σ s j ≤ j
  | 0 => by unfold pyN; omega
  | j + 1 => by
    have := py_le j
    unfold pyN
    by_cases q : ow σ s j ≤ σ.2 31 j
    · rw [if_pos q]; omega
    · rw [if_neg q]; omega
theorem py_mono : ∀ {j : Nat} (k : Nat), pyN σ s j ≤ pyN σ s (j + k)
  | j, 0 => Nat.le_refl _
  | j, k + 1 => by
    have := py_mono (j := j) k
    rw [show j + (k + 1) = j + k + 1 by omega, pyN]
    by_cases q : ow σ s (j + k) ≤ σ.2 31 (j + k)
    · rw [if_pos q]; omega
    · rw [if_neg q]; omega
theorem due_bd (W : WV σ) (hj : j < cn σ 26) : bd (dueO σ (R0 σ) (G0 σ) j s) 989902 := by
  unfold dueO
  rcases e : termO σ j (nI s) with _ | t
  · exact ⟨0, by omega, lt0⟩
  · obtain ⟨e1, e2⟩ := fp_ok W (s := s) hj (termO_lt W e)
    obtain ⟨a, ha, ea⟩ := wv30 W hj
    simp only []
    rw [e1, ea, nI_mul]
    refine ⟨_, ?_, rfl⟩
    have : a * fpN σ j s t ≤ 99 * 9999 := Nat.mul_le_mul (by omega) (by omega)
    omega
theorem bdI {x : Int32} {m : Nat} (b : bd x m) (hm : m ≤ 2 ^ 31) : 0 ≤ x.toInt ∧ x.toInt < m := by
  obtain ⟨k, hk, rfl⟩ := b
  rw [nI_toInt (by omega)]
  omega
theorem ow_n (W : WV σ) (X : WX σ n) (hn : n ≤ 600) (hj : j < cn σ 26) (hs : s < 16) : bd (σ.2 34 (16 * j + s) + ow σ s j) 989902 ∧ (ow σ s j ≤ σ.2 31 j → bd (σ.2 31 j - ow σ s j) (989901 * (n + 1) + 1)) ∧ (¬ ow σ s j ≤ σ.2 31 j → bd (ow σ s j - σ.2 31 j) 990000 ∧ 0 < ow σ s j - σ.2 31 j) ∧ (ow σ s j < 0 → ow σ s j ≤ σ.2 31 j) ∧ (ow σ s j ≤ σ.2 31 j → ¬ 0 < ow σ s j - σ.2 31 j) := by
  have b1 := due_bd W (s := s) hj
  obtain ⟨-, b3, b2⟩ := X.1 j hj
  have b2 := b2 s hs
  have e : (σ.2 34 (16 * j + s) + ow σ s j) = dueO σ (R0 σ) (G0 σ) j s := by unfold ow; rw [Int32.add_comm, Int32.sub_add_cancel]
  have i1 := bdI b1 (by decide)
  have i2 := bdI b2 (by decide)
  have hb : 989901 * n + 1 ≤ 2 ^ 31 := by
    have := Nat.mul_le_mul_left 989901 hn
    omega
  have i3 := bdI b3 hb
  have hb2 : 989901 * n ≤ 989901 * 600 := Nat.mul_le_mul_left 989901 hn
  have io : (ow σ s j).toInt = (dueO σ (R0 σ) (G0 σ) j s).toInt - (σ.2 34 (16 * j + s)).toInt := i3_sub (by omega) (by omega)
  have is : (ow σ s j - σ.2 31 j).toInt = (ow σ s j).toInt - (σ.2 31 j).toInt := i3_sub (by omega) (by omega)
  have it : (σ.2 31 j - ow σ s j).toInt = (σ.2 31 j).toInt - (ow σ s j).toInt := i3_sub (by omega) (by omega)
  refine ⟨by rw [e]; exact b1, fun q => bd_of_int ?_, fun q => ⟨bd_of_int ?_, ?_⟩, fun q => ?_, fun q => ?_⟩
  · rw [Int32.le_iff_toInt_le] at q
    rw [it]; omega
  · rw [Int32.le_iff_toInt_le] at q
    rw [is]; omega
  · rw [Int32.le_iff_toInt_le] at q
    rw [Int32.lt_iff_toInt_lt, is, z0i]; omega
  · rw [Int32.lt_iff_toInt_lt, z0i] at q
    rw [Int32.le_iff_toInt_le]; omega
  · rw [Int32.le_iff_toInt_le] at q
    rw [Int32.lt_iff_toInt_lt, is, z0i]; omega
theorem WX.set {p d : Int32} (X : WX y n) (hj : j < cn y 26) (hs : s < 16) (b1 : bd p 989902) (b2 : bd d (989901 * n + 1)) : WX (s2 (s2 y 34 (16 * j + s) p) 31 j d) n := by
  obtain ⟨y1, y2, y3, y4, y5, y6, y7, y8, y9⟩ := X
  have e31 : ∀ i, (s2 (s2 y 34 (16 * j + s) p) 31 j d).2 31 i = if i = j then d else y.2 31 i := fun i => by
    rw [s2_ite, s2_row (show 31 ≠ 34 by decide)]
    by_cases e : i = j
    · rw [if_pos ⟨rfl, e⟩, if_pos e]
    · rw [if_neg (fun z => e z.2), if_neg e]
  have e34 : ∀ i, (s2 (s2 y 34 (16 * j + s) p) 31 j d).2 34 i = if i = 16 * j + s then p else y.2 34 i := fun i => by
    rw [s2_row (show 34 ≠ 31 by decide), s2_ite]
    by_cases e : i = 16 * j + s
    · rw [if_pos ⟨rfl, e⟩, if_pos e]
    · rw [if_neg (fun z => e z.2), if_neg e]
  refine ⟨fun i hi => ⟨?_, ?_, fun s' hs' => ?_⟩, y2, y3, y4, y5, y6, y7, fun i h1 h2 => ⟨?_, ?_, fun s' hs' => ?_⟩, y9⟩
  · rw [s2_row (show 32 ≠ 31 by decide), s2_row (show 32 ≠ 34 by decide)]; exact (y1 i hi).1
  · rw [e31]
    by_cases e : i = j
    · rw [if_pos e]; exact b2
    · rw [if_neg e]; exact (y1 i hi).2.1
  · rw [e34]
    by_cases e : 16 * i + s' = 16 * j + s
    · rw [if_pos e]; exact b1
    · rw [if_neg e]; exact (y1 i hi).2.2 s' hs'
  · have h1' : cn y 26 ≤ i := h1
    rw [e31, if_neg (by omega)]; exact (y8 i h1 h2).1
  · rw [s2_row (show 33 ≠ 31 by decide), s2_row (show 33 ≠ 34 by decide)]; exact (y8 i h1 h2).2.1
  · have h1' : cn y 26 ≤ i := h1
    rw [e34, if_neg (by omega)]; exact (y8 i h1 h2).2.2 s' hs'
def QS (σ : SG) (s n j : Nat) (y : SG) : Prop := WV y ∧ WX y (n + 1) ∧ y.1 26 = σ.1 26 ∧ cn y 49 = cn σ 49 + pyN σ s j ∧ (∀ f, j ≤ f → y.2 31 f = σ.2 31 f ∧ y.2 34 (16 * f + s) = σ.2 34 (16 * f + s)) ∧ (∀ f, dueO y (R0 σ) (G0 σ) f s = dueO σ (R0 σ) (G0 σ) f s) ∧ y.2 11 = σ.2 11 ∧ y.2 12 = σ.2 12
theorem due_34 {R G : Nat → Int32} {a f : Nat} {x : Int32} : dueO (s2 y 34 a x) R G f s = dueO y R G f s := rfl
theorem due_31 {R G : Nat → Int32} {a f : Nat} {x : Int32} : dueO (s2 y 31 a x) R G f s = dueO y R G f s := rfl
theorem due_20 {R G : Nat → Int32} {f : Nat} {x0 x1 x2 x3 : Int32} : dueO (ts20 y x0 x1 x2 x3) R G f s = dueO y R G f s := rfl
theorem WV.s34 {a : Nat} {x : Int32} (W : WV y) : WV (s2 y 34 a x) := W.of (fun _ _ => rfl) (vs2_row (by decide)) (W.2.1.w2_n (by decide)) (WL_s2 W.2.2.1 (by decide))
theorem WV.s31 {a : Nat} {x : Int32} (W : WV y) : WV (s2 y 31 a x) := W.of (fun _ _ => rfl) (vs2_row (by decide)) (W.2.1.w2_n (by decide)) (WL_s2 W.2.2.1 (by decide))
theorem QS.step (Q : QS σ s n j y) (W : WV σ) (X : WX σ n) (hn : n ≤ 600) (hj : j < cn σ 26) (hs : s < 16) (hp : cn σ 49 + pyN σ s (cn σ 26) ≤ 200) : QS σ s n (j + 1) (setT σ s j y) := by
  obtain ⟨w, x, c26, c49, g, dd, g11, g12⟩ := Q
  obtain ⟨n1, n2, n3, -⟩ := ow_n W X hn hj hs
  have hjy : j < cn y 26 := by unfold cn; rw [c26]; exact hj
  have hm : pyN σ s (j + 1) ≤ pyN σ s (cn σ 26) := by
    have := py_mono (σ := σ) (s := s) (j := j + 1) (cn σ 26 - (j + 1))
    rwa [show j + 1 + (cn σ 26 - (j + 1)) = cn σ 26 by omega] at this
  have f31 : ∀ x f, j + 1 ≤ f → (s2 (sA σ s j y) 31 j x).2 31 f = σ.2 31 f ∧ (s2 (sA σ s j y) 31 j x).2 34 (16 * f + s) = σ.2 34 (16 * f + s) := by
    intro x f hf
    constructor
    · rw [s2_ite, if_neg (by omega)]
      show (s2 y 34 _ _).2 31 f = _
      rw [s2_row (by decide)]; exact (g f (by omega)).1
    · rw [s2_row (by decide)]
      show (s2 y 34 _ _).2 34 (16 * f + s) = _
      rw [s2_ite, if_neg (by omega)]; exact (g f (by omega)).2
  unfold setT
  by_cases q : ow σ s j ≤ σ.2 31 j
  · rw [if_pos q]
    refine ⟨w.s34.s31, x.set hjy hs n1 (n2 q), c26, ?_, f31 _, fun f => ?_, ?_, ?_⟩
    · rw [pyN, if_pos q]; exact c49
    · rw [due_31]; unfold sA; rw [due_34]; exact dd f
    · rw [s2_row (by decide)]; unfold sA; rw [s2_row (by decide)]; exact g11
    · rw [s2_row (by decide)]; unfold sA; rw [s2_row (by decide)]; exact g12
  · rw [if_neg q]
    have hpy : pyN σ s (j + 1) = pyN σ s j + 1 := by rw [pyN, if_neg q]
    have c49' : cn (s2 (sA σ s j y) 31 j 0) 49 = cn σ 49 + pyN σ s j := c49
    have w2 : WV (s2 (sA σ s j y) 31 j 0) := w.s34.s31
    have x2 : WX (s2 (sA σ s j y) 31 j 0) (n + 1) := x.set hjy hs n1 ⟨0, by omega, lt0⟩
    have rr : ∀ k, k ≠ 50 → k ≠ 51 → k ≠ 52 → k ≠ 53 → ∀ a b c d, (ts20 (s2 (sA σ s j y) 31 j 0) a b c d).2 k = (s2 (sA σ s j y) 31 j 0).2 k := fun k h0 h1 h2 h3 a b c d => by
      show (s2 (s2 (s2 (s2 (s2 (sA σ s j y) 31 j 0) 50 _ a) 51 _ b) 52 _ c) 53 _ d).2 k = _
      rw [s2_row h3, s2_row h2, s2_row h1, s2_row h0]
    refine ⟨wts20 w2 (by rw [c49']; omega) ⟨j, hjy, rfl⟩ ⟨s, hs, rfl⟩ (n3 q).1 ⟨0, by omega, lt0⟩, xts20 x2, ?_, ?_, fun f hf => ?_, fun f => ?_, ?_, ?_⟩
    · rw [← c26]; exact s1_ne (σ := s2 (s2 (s2 (s2 (s2 (sA σ s j y) 31 j 0) 50 _ _) 51 _ _) 52 _ _) 53 _ _) (by decide)
    · have hy := w.1.p
      rw [hpy]
      have e : (ts20 (s2 (sA σ s j y) 31 j 0) (nI j) (nI s) (ow σ s j - σ.2 31 j) 0).1 49 = nI (cn (s2 (sA σ s j y) 31 j 0) 49 + 1) := s1_eq (σ := s2 (s2 (s2 (s2 (s2 (sA σ s j y) 31 j 0) 50 _ _) 51 _ _) 52 _ _) 53 _ _)
      rw [cn_eq e (by rw [c49']; omega), c49']; omega
    · rw [rr 31 (by decide) (by decide) (by decide) (by decide), rr 34 (by decide) (by decide) (by decide) (by decide)]; exact f31 _ f hf
    · rw [due_20, due_31]; unfold sA; rw [due_34]; exact dd f
    · rw [rr 11 (by decide) (by decide) (by decide) (by decide), s2_row (by decide)]; unfold sA; rw [s2_row (by decide)]; exact g11
    · rw [rr 12 (by decide) (by decide) (by decide) (by decide), s2_row (by decide)]; unfold sA; rw [s2_row (by decide)]; exact g12
theorem ai_sfi {r k a : Nat} {x : Int32} : ai (sfi h r k x) a = ai h a := rfl
theorem c_setF (C : CS h' y tr u) (H : RS h' σ) (Q : QS σ s n j y) (W : WV σ) (X : WX σ n) (S : kd h' 9000 = 30 ∧ ln h' 9000 = L ∧ ai h' 9000 = xs) (hn : n ≤ 600) (hj : j < cn σ 26) (hs : s < 16) (hp : cn σ 49 + pyN σ s (cn σ 26) ≤ 200) : ∃ h2, f_X11_settleFarm h' 1 (300 + j) (nI s) (ow σ s j) = some h2 ∧ CS h2 (setT σ s j y) tr u ∧ RS h2 σ ∧ (kd h2 9000 = 30 ∧ ln h2 9000 = L ∧ ai h2 9000 = xs) ∧ ai h2 29 = ai h' 29 := by
  obtain ⟨w, x, c26, c49, g, dd, g11, g12⟩ := Q
  obtain ⟨n1, n2, n3, n4, n5⟩ := ow_n W X hn hj hs
  have hF := W.1.f
  have hjy : j < cn y 26 := by unfold cn; rw [c26]; exact hj
  have k330 : kd h' (330 + j) = 20 := C.oj (b := 330) (c := 26) (k := 20) (m := 24) (by decide) hjy
  have l330 : ln h' (330 + j) = 16 := (C.2.2.2.2.1.1 j hjy).1.2.2.2.1
  have ks : xia h' (330 + j) (nI s) = some (σ.2 34 (16 * j + s)) := by rw [kst C hjy hs, (g j (by omega)).2]
  obtain ⟨h1, eh1⟩ : ∃ h1, h1 = sai h' (330 + j) s (σ.2 34 (16 * j + s) + ow σ s j) := ⟨_, rfl⟩
  have x1 : xis h' (330 + j) (nI s) (σ.2 34 (16 * j + s) + ow σ s j) = some h1 := by rw [eh1]; exact xis_of k330 l330 hs (by decide)
  have C1 : CS h1 (sA σ s j y) tr u := by
    rw [eh1]
    exact C.ofA (DD.wB C.d w.1.B (b := 330) (w := 16) (k := 34) (c := 26) (m := 24) (by decide) hjy hs) (by omega) (fun _ _ => rfl) (ks2_row (by decide)) w.1
  have H1 : RS h1 σ := by rw [eh1]; exact rsA H (by omega)
  have S1 : kd h1 9000 = 30 ∧ ln h1 9000 = L ∧ ai h1 9000 = xs := by rw [eh1]; exact sai_9 S (by omega)
  have r1 : ai h1 29 = ai h' 29 := by rw [eh1]; exact ai_sai_ne (by omega)
  have w1 : WV (sA σ s j y) := w.s34
  have v31 : (sA σ s j y).2 31 j = σ.2 31 j := by unfold sA; rw [s2_row (by decide)]; exact (g j (by omega)).1
  have g6 : xgi h1 (300 + j) 3 6 = some (σ.2 31 j) := by rw [kf300_6 C1 hjy, v31]
  have wr : ∀ z, xpi h1 (300 + j) 3 6 z = some (sfi h1 (300 + j) 6 z) ∧ CS (sfi h1 (300 + j) 6 z) (s2 (sA σ s j y) 31 j z) tr u ∧ RS (sfi h1 (300 + j) 6 z) σ := fun z =>
    ⟨xpi_ok (kd300 C1 hjy), C1.ofF (DD.wF C1.d w1.1.F (b := 300) (f := 6) (k := 31) (c := 26) (m := 24) (by decide) hjy) (by omega) (fun _ _ => rfl) (ks2_row (by decide)) w1.1, rsF H1 (by omega)⟩
  by_cases q : ow σ s j ≤ σ.2 31 j
  · obtain ⟨p1, p2, p3⟩ := wr (σ.2 31 j - ow σ s j)
    refine ⟨sfi h1 (300 + j) 6 (σ.2 31 j - ow σ s j), ?_, ?_, p3, sfi_9 S1, r1⟩
    · unfold f_X11_settleFarm
      rw [if_pos (kk1 C), kq300_5 C hjy, obs, ks, obs, x1, obs]
      by_cases q0 : 0 ≤ ow σ s j
      · have q1 : ¬ σ.2 31 j < ow σ s j := Int32.not_lt.mpr q
        rw [if_pos q0, g6, obs, obs, if_neg q1, p1, obs, if_pos (Int32.le_refl _)]
      · rw [if_neg q0, g6, obs, p1, obs]
    · unfold setT; rw [if_pos q]; exact p2
  · obtain ⟨p1, p2, p3⟩ := wr 0
    have q1 : σ.2 31 j < ow σ s j := Int32.not_le.mp q
    have q0 : 0 ≤ ow σ s j := Int32.not_lt.mp (fun z => q (n4 z))
    have hm : pyN σ s (j + 1) ≤ pyN σ s (cn σ 26) := by
      have := py_mono (σ := σ) (s := s) (j := j + 1) (cn σ 26 - (j + 1))
      rwa [show j + 1 + (cn σ 26 - (j + 1)) = cn σ 26 by omega] at this
    have hpy : pyN σ s (j + 1) = pyN σ s j + 1 := by rw [pyN, if_neg q]
    have c49' : cn (s2 (sA σ s j y) 31 j 0) 49 = cn σ 49 + pyN σ s j := c49
    have w2 : WV (s2 (sA σ s j y) 31 j 0) := w1.s31
    have hjy2 : j < cn (s2 (sA σ s j y) 31 j 0) 26 := hjy
    obtain ⟨a1, a2⟩ := kadd20 p2 w2.1 (x0 := nI j) (x1 := nI s) (x2 := ow σ s j - σ.2 31 j) (x3 := 0) (by rw [c49']; omega)
    have S2 : kd (sfi h1 (300 + j) 6 0) 9000 = 30 ∧ ln (sfi h1 (300 + j) 6 0) 9000 = L ∧ ai (sfi h1 (300 + j) 6 0) 9000 = xs := S1
    have r2 : ai (sfi h1 (300 + j) 6 0) 29 = ai h1 29 := rfl
    have eT : setT σ s j y = ts20 (s2 (sA σ s j y) 31 j 0) (nI j) (nI s) (ow σ s j - σ.2 31 j) 0 := by unfold setT; rw [if_neg q]
    rw [eT]
    generalize sfi h1 (300 + j) 6 0 = hA at p1 p2 p3 a1 a2 S2 r2
    generalize s2 (sA σ s j y) 31 j 0 = yA at p2 c49' w2 hjy2 a1 a2
    generalize hvA : ow σ s j - σ.2 31 j = vA at a1 a2 ⊢
    refine ⟨ta20 hA yA (nI j) (nI s) vA 0, ?_, a2, rsF (rsA (rsA (rsA (rsA p3 (by omega)) (by omega)) (by omega)) (by omega)) (by omega), sts20 S2, ?_⟩
    · unfold f_X11_settleFarm
      rw [if_pos (kk1 C), kq300_5 C hjy, obs, ks, obs, x1, obs, if_pos q0, g6, obs, obs, if_pos q1, Int32.sub_self, p1, obs, if_neg q, kr1_10 p2, obs, kf300_0 p2 hjy2, obs, hvA, a1, obs]
    · rw [← r1]
      unfold ta20
      rw [ai_sfi, ai_sai_ne (by omega), ai_sai_ne (by omega), ai_sai_ne (by omega), ai_sai_ne (by omega), r2]
theorem r_owed (H : RS h' y) (Q : QS σ s n j y) (W : WV σ) (hj : j < cn σ 26) (hs : s < 16) (hN : 100 < N) : f_X12_owed h' N 100 (nI j) (nI s) = some (ow σ s j) := by
  obtain ⟨w, x, c26, c49, g, dd, g11, g12⟩ := Q
  have hF := W.1.f
  have hjy : j < cn y 26 := by unfold cn; rw [c26]; exact hj
  have T : TB y 0 (R0 σ) (G0 σ) := by
    obtain ⟨t1, t2, t3⟩ := TB0 W
    exact ⟨t1, by rw [g11]; exact t2, by rw [g12]; exact t3⟩
  have ed : f_X12_dueOf h' N 100 0 (nI j) (nI s) = some (dueO y (R0 σ) (G0 σ) j s) := r_dueOf H w T hjy hs hN
  have e16 : (16 : Int32) * nI j + nI s = nI (16 * j + s) := by rw [lt16, nI_mul, nI_add]
  unfold f_X12_owed
  rw [if_pos H.1, ed, obs, rg34 H, obs, e16, ra34 H (by omega), obs, dd, (g j (by omega)).2]
  rfl
theorem r_setF (H : RS h' y) (Q : QS σ s n j y) (W : WV σ) (X : WX σ n) (hn : n ≤ 600) (hj : j < cn σ 26) (hs : s < 16) (hp : cn σ 49 + pyN σ s (cn σ 26) ≤ 200) (hN : 100 < N) {z : Int32} {m : Nat} : ∃ h2, f_X12_settle_b67 N (m + 1) h' 100 (nI s) z (nI j) = f_X12_settle_b67 N m h2 100 (nI s) z (nI (j + 1)) ∧ RS h2 (setT σ s j y) ∧ FRc h' h2 := by
  have eo := r_owed H Q W hj hs hN
  obtain ⟨w, x, c26, c49, g, dd, g11, g12⟩ := Q
  obtain ⟨n1, n2, n3, n4, n5⟩ := ow_n W X hn hj hs
  have hF := W.1.f
  have hjy : j < cn y 26 := by unfold cn; rw [c26]; exact hj
  have hc : ¬ y.1 26 ≤ nI j := by rw [c26, hF.1, nI_leI (by omega) (by omega)]; omega
  have e16 : (16 : Int32) * nI j + nI s = nI (16 * j + s) := by rw [lt16, nI_mul, nI_add]
  have a34 : xia h' 134 (nI (16 * j + s)) = some (σ.2 34 (16 * j + s)) := by rw [ra34 H (by omega), (g j (by omega)).2]
  have w1 := rw34 H (n := 16 * j + s) (x := σ.2 34 (16 * j + s) + ow σ s j) (by omega)
  have a31 : xia (sai h' 134 (16 * j + s) (σ.2 34 (16 * j + s) + ow σ s j)) 131 (nI j) = some (σ.2 31 j) := by
    rw [ra31 w1.2 (by omega), s2_row (by decide), (g j (by omega)).1]
  have w2 := fun z => rw31 w1.2 (n := j) (x := z) (by omega)
  have F1 : FRc h' (sai h' 134 (16 * j + s) (σ.2 34 (16 * j + s) + ow σ s j)) := FRc.a (by omega) (by omega)
  have F2 : ∀ z, FRc h' (sai (sai h' 134 (16 * j + s) (σ.2 34 (16 * j + s) + ow σ s j)) 131 j z) := fun z => F1.trans (FRc.a (by omega) (by omega))
  have pre : f_X12_settle_b67 N (m + 1) h' 100 (nI s) z (nI j) = (if ow σ s j < 0 then f_X12_settle_b120 N (f_X12_settle_b67 N m) (sai h' 134 (16 * j + s) (σ.2 34 (16 * j + s) + ow σ s j)) 100 (nI s) z (nI j) (ow σ s j) else if 0 < ow σ s j - σ.2 31 j then (xis (sai h' 134 (16 * j + s) (σ.2 34 (16 * j + s) + ow σ s j)) 131 (nI j) 0).bind fun h22 => (f_X12_pays h22 100 (nI j) (nI s) (ow σ s j - σ.2 31 j)).bind fun q23 => f_X12_settle_b149 N (f_X12_settle_b67 N m) q23 100 (nI s) z (nI j) else f_X12_settle_b120 N (f_X12_settle_b67 N m) (sai h' 134 (16 * j + s) (σ.2 34 (16 * j + s) + ow σ s j)) 100 (nI s) z (nI j) (ow σ s j)) := by
    show f_X12_settle_b67_body N (f_X12_settle_b67 N m) h' 100 (nI s) z (nI j) = _
    unfold f_X12_settle_b67_body
    rw [RS.gi H, obs, if_neg hc, eo, obs, rg34 H, obs, e16, a34, obs, w1.1, obs, rg31 w1.2, obs, a31, obs, obs]
  have pay : ∀ v, f_X12_settle_b120 N (f_X12_settle_b67 N m) (sai h' 134 (16 * j + s) (σ.2 34 (16 * j + s) + ow σ s j)) 100 (nI s) z (nI j) v = f_X12_settle_b67 N m (sai (sai h' 134 (16 * j + s) (σ.2 34 (16 * j + s) + ow σ s j)) 131 j (σ.2 31 j - v)) 100 (nI s) z (nI (j + 1)) := by
    intro v
    unfold f_X12_settle_b120 f_X12_settle_b149
    rw [rg31 w1.2, obs, a31, obs, (w2 _).1, obs, nI_1]
  rw [pre]
  by_cases q : ow σ s j ≤ σ.2 31 j
  · refine ⟨_, ?_, by unfold setT; rw [if_pos q]; exact (w2 _).2, F2 _⟩
    by_cases q0 : ow σ s j < 0
    · rw [if_pos q0, pay]
    · rw [if_neg q0, if_neg (n5 q), pay]
  · have q0 : ¬ ow σ s j < 0 := fun z => q (n4 z)
    have hm : pyN σ s (j + 1) ≤ pyN σ s (cn σ 26) := by
      have := py_mono (σ := σ) (s := s) (j := j + 1) (cn σ 26 - (j + 1))
      rwa [show j + 1 + (cn σ 26 - (j + 1)) = cn σ 26 by omega] at this
    have hpy : pyN σ s (j + 1) = pyN σ s j + 1 := by rw [pyN, if_neg q]
    have c49' : cn (s2 (sA σ s j y) 31 j 0) 49 = cn σ 49 + pyN σ s j := c49
    have w49 : (s2 (sA σ s j y) 31 j 0).1 49 = nI (cn (s2 (sA σ s j y) 31 j 0) 49) := w.1.p.1
    obtain ⟨h5, e5, F5, H5⟩ := r_pays (p := cn (s2 (sA σ s j y) 31 j 0) 49) (w2 0).2 rfl w49 (by rw [c49']; omega) (x0 := nI j) (x1 := nI s) (x2 := ow σ s j - σ.2 31 j)
    refine ⟨h5, ?_, by unfold setT; rw [if_neg q]; exact H5, (F2 0).trans F5⟩
    rw [if_neg q0, if_pos (n3 q).2, (w2 0).1, obs, e5, obs]
    unfold f_X12_settle_b149
    rw [nI_1]
theorem c_setL1 (C : CS h σ tr u) (W : WV σ) (hs : s < 16) (hN : 1000 < N) : ∃ h', f_X11_settle_b13 N N h 1 (nI s) 0 0 = (if nI (cn σ 49 + pyN σ s (cn σ 26)) ≤ 200 then f_X11_settle_b101 N N h' 1 (nI s) (nI (pyN σ s (cn σ 26))) 0 else some (-4, h')) ∧ SCR h h' ∧ ∀ f, f < cn σ 26 → ai h' 29 f = ow σ s f := by
  have hF := W.1.f
  have hP := W.1.p
  have hTl := W.1.tl
  refine (lpS (σ := AH) (α := Unit) (fun n i h _ => f_X11_settle_b13 N n h 1 (nI s) (nI (pyN σ s i)) (nI i)) (fun _ a => a) (cn σ 26) (fun h' _ => if nI (cn σ 49 + pyN σ s (cn σ 26)) ≤ 200 then f_X11_settle_b101 N N h' 1 (nI s) (nI (pyN σ s (cn σ 26))) 0 else some (-4, h')) (fun i h' _ => SCR h h' ∧ ∀ f, f < i → ai h' 29 f = ow σ s f) ?_ ?_ (cn σ 26) N 0 h () (by omega) (by omega) ⟨SCR.refl, fun w hw => absurd hw (by omega)⟩).elim (fun h' e => ⟨h', e.1, e.2.1, e.2.2⟩)
  · intro n h' _ ⟨S, _⟩
    have C' := C.scr S
    have rm : f_X7_hasRoomFor h' 20 (nI (pyN σ s (cn σ 26))) = some (if nI (cn σ 49 + pyN σ s (cn σ 26)) ≤ 200 then 1 else 0) := by
      unfold f_X7_hasRoomFor
      rw [if_pos (kk20 C'), ki20_3 C', obs, km20 C', obs, hP.1, nI_add]
      by_cases q : (200 : Int32) < nI (cn σ 49 + pyN σ s (cn σ 26))
      · rw [if_pos q, if_neg (Int32.not_le.mpr q)]
      · rw [if_neg q, if_pos (Int32.not_lt.mp q)]
    have hle : σ.1 26 ≤ nI (cn σ 26) := by rw [hF.1]; exact Int32.le_refl _
    show f_X11_settle_b13_body N (f_X11_settle_b13 N n) h' 1 (nI s) (nI (pyN σ s (cn σ 26))) (nI (cn σ 26)) = _
    unfold f_X11_settle_b13_body
    rw [kr1_2 C', obs, kz12 C', obs, if_pos hle, kr1_10 C', obs, rm, obs]
    by_cases q : nI (cn σ 49 + pyN σ s (cn σ 26)) ≤ 200
    · rw [if_pos q, if_neg (show ¬ (1 : Int32) = 0 by decide), if_pos q]
    · rw [if_neg q, if_pos rfl, if_neg q]
  · intro n i h' _ hi ⟨S, hw⟩
    have C' := C.scr S
    have hn : ¬ σ.1 26 ≤ nI i := by rw [hF.1, nI_leI (by omega) (by omega)]; omega
    obtain ⟨h2, e2, S2, -, S9⟩ := c_dueOf (N := N) (kk := cn σ 7) C' W hi hs (by omega) hN
    have C2 := C'.scr S2
    have x1 : xis h2 29 (nI i) (ow σ s i) = some (sai h2 29 i (ow σ s i)) := xis_of (kk29 C2) (kl C2 (by decide)) (show i < 24 by omega) (by decide)
    have S3 : SCR h2 (sai h2 29 i (ow σ s i)) := SCR.w (by omega) (by omega)
    have C3 := C2.scr S3
    have x2 : xia (sai h2 29 i (ow σ s i)) 29 (nI i) = some (ow σ s i) := xia_of (kk29 C3) (kl C3 (by decide)) (show i < 24 by omega) (by decide) (by rw [ai_sai, if_pos ⟨rfl, rfl⟩])
    refine ⟨sai h2 29 i (ow σ s i), ?_, (S.trans S2).trans S3, ?_⟩
    · show f_X11_settle_b13_body N (f_X11_settle_b13 N n) h' 1 (nI s) (nI (pyN σ s i)) (nI i) = _
      have e2' : f_X11_dueOf h' N 1 (300 + i) (nI s) (nI (cn σ 7)) = some (dueO σ (R0 σ) (G0 σ) i s, h2) := e2
      have x1' : xis h2 29 (nI i) (dueO σ (R0 σ) (G0 σ) i s - σ.2 34 (16 * i + s)) = some (sai h2 29 i (ow σ s i)) := x1
      unfold f_X11_settle_b13_body f_X11_settle_b79
      rw [kr1_2 C', obs, kz12 C', obs, if_neg hn, obs, kg12 C' W.1 hi, obs, kc300 C' hi, obs, kr1_19 C', obs, c_now C' W.1, obs, e2', obs]
      simp only []
      rw [kq300_5 C2 hi, obs, kst C2 hi hs, obs, x1', obs, kr1_19 C3, obs, x2, obs, kf300_6 C3 hi, obs, nI_1, nI_1]
      by_cases q : ow σ s i ≤ σ.2 31 i
      · rw [if_pos q, show pyN σ s (i + 1) = pyN σ s i by rw [pyN, if_pos q]]
      · rw [if_neg q, show pyN σ s (i + 1) = pyN σ s i + 1 by rw [pyN, if_neg q]]
    · intro f hf
      rw [ai_sai]
      by_cases ef : f = i
      · rw [if_pos ⟨rfl, ef⟩, ef]
      · rw [if_neg (fun z => ef z.2), S9]; exact hw f (by omega)
theorem QS.zero (W : WV σ) (X : WX σ n) : QS σ s n 0 σ := ⟨W, X.up (by omega), rfl, rfl, fun _ _ => ⟨rfl, rfl⟩, fun _ => rfl, rfl, rfl⟩
theorem r_owed0 (H : RS h' σ) (W : WV σ) (hj : j < cn σ 26) (hs : s < 16) (hN : 100 < N) : f_X12_owed h' N 100 (nI j) (nI s) = some (ow σ s j) := by
  have hF := W.1.f
  have ed : f_X12_dueOf h' N 100 0 (nI j) (nI s) = some (dueO σ (R0 σ) (G0 σ) j s) := r_dueOf H W (TB0 W) hj hs hN
  have e16 : (16 : Int32) * nI j + nI s = nI (16 * j + s) := by rw [lt16, nI_mul, nI_add]
  unfold f_X12_owed
  rw [if_pos H.1, ed, obs, rg34 H, obs, e16, ra34 H (by omega), obs]
  rfl
theorem r_setL1 (H : RS h' σ) (W : WV σ) (hs : s < 16) (hN : 1000 < N) : f_X12_settle_b13 N N h' 100 (nI s) 0 0 = (if nI (cn σ 49 + pyN σ s (cn σ 26)) ≤ 200 then f_X12_settle_b67 N N h' 100 (nI s) (nI (pyN σ s (cn σ 26))) 0 else some (-4, h')) := by
  have hF := W.1.f
  have hP := W.1.p
  refine (lpS (σ := AH) (α := Unit) (fun n i h _ => f_X12_settle_b13 N n h 100 (nI s) (nI (pyN σ s i)) (nI i)) (fun _ a => a) (cn σ 26) (fun h' _ => if nI (cn σ 49 + pyN σ s (cn σ 26)) ≤ 200 then f_X12_settle_b67 N N h' 100 (nI s) (nI (pyN σ s (cn σ 26))) 0 else some (-4, h')) (fun i z _ => z = h') ?_ ?_ (cn σ 26) N 0 h' () (by omega) (by omega) rfl).elim (fun z e => by
      have e2 := e.2
      subst e2
      exact e.1)
  · rintro n z _ rfl
    have hle : σ.1 26 ≤ nI (cn σ 26) := by rw [hF.1]; exact Int32.le_refl _
    show f_X12_settle_b13_body N (f_X12_settle_b13 N n) z 100 (nI s) (nI (pyN σ s (cn σ 26))) (nI (cn σ 26)) = _
    unfold f_X12_settle_b13_body
    rw [RS.gi H, obs, if_pos hle, RS.gi H, obs, hP.1, nI_add]
  · rintro n i z _ hi rfl
    refine ⟨z, ?_, rfl⟩
    have hn : ¬ σ.1 26 ≤ nI i := by rw [hF.1, nI_leI (by omega) (by omega)]; omega
    have eo := r_owed0 (N := N) H W hi hs (by omega)
    show f_X12_settle_b13_body N (f_X12_settle_b13 N n) z 100 (nI s) (nI (pyN σ s i)) (nI i) = _
    unfold f_X12_settle_b13_body f_X12_settle_b42
    rw [RS.gi H, obs, if_neg hn, eo, obs, rg31 H, obs, ra31 H (by omega), obs, nI_1, nI_1, Int32.add_zero]
    by_cases q : ow σ s i ≤ σ.2 31 i
    · rw [if_pos q, show pyN σ s (i + 1) = pyN σ s i by rw [pyN, if_pos q]]
    · rw [if_neg q, show pyN σ s (i + 1) = pyN σ s i + 1 by rw [pyN, if_neg q]]
theorem c_setL2 (C : CS h σ tr u) (H : RS h σ) (W : WV σ) (X : WX σ n) (S : kd h 9000 = 30 ∧ ln h 9000 = L ∧ ai h 9000 = xs) (hn : n ≤ 600) (hs : s < 16) (hp : cn σ 49 + pyN σ s (cn σ 26) ≤ 200) (hN : 1000 < N) (hw : ∀ f, f < cn σ 26 → ai h 29 f = ow σ s f) {z : Int32} : ∃ h', f_X11_settle_b101 N N h 1 (nI s) z 0 = some (z, h') ∧ CS h' (itr (setT σ s) 0 (cn σ 26) σ) tr u ∧ RS h' σ ∧ QS σ s n (cn σ 26) (itr (setT σ s) 0 (cn σ 26) σ) ∧ (kd h' 9000 = 30 ∧ ln h' 9000 = L ∧ ai h' 9000 = xs) := by
  have hF := W.1.f
  refine (lpS (σ := AH) (α := SG) (fun n i h _ => f_X11_settle_b101 N n h 1 (nI s) z (nI i)) (setT σ s) (cn σ 26) (fun h' _ => some (z, h')) (fun i h' y => CS h' y tr u ∧ RS h' σ ∧ QS σ s n i y ∧ (kd h' 9000 = 30 ∧ ln h' 9000 = L ∧ ai h' 9000 = xs) ∧ ai h' 29 = ai h 29) ?_ ?_ (cn σ 26) N 0 h σ (by omega) (by omega) ⟨C, H, QS.zero W X, S, rfl⟩).elim (fun h' e => ⟨h', e.1, e.2.1, e.2.2.1, e.2.2.2.1, e.2.2.2.2.1⟩)
  · intro n' h' y ⟨C', H', Q', S', _⟩
    have hle : y.1 26 ≤ nI (cn σ 26) := by rw [Q'.2.2.1, hF.1]; exact Int32.le_refl _
    show f_X11_settle_b101_body N (f_X11_settle_b101 N n') h' 1 (nI s) z (nI (cn σ 26)) = _
    unfold f_X11_settle_b101_body
    rw [kr1_2 C', obs, kz12 C', obs, if_pos hle]
  · intro n' i h' y hi ⟨C', H', Q', S', r'⟩
    have hnn : ¬ y.1 26 ≤ nI i := by rw [Q'.2.2.1, hF.1, nI_leI (by omega) (by omega)]; omega
    have hiy : i < cn y 26 := by unfold cn; rw [Q'.2.2.1]; exact hi
    have x2 : xia h' 29 (nI i) = some (ow σ s i) := xia_of (kk29 C') (kl C' (by decide)) (show i < 24 by omega) (by decide) (by rw [r']; exact hw i hi)
    obtain ⟨h2, e2, C2, H2, S2, r2⟩ := c_setF C' H' Q' W X S' hn hi hs hp
    refine ⟨h2, ?_, C2, H2, Q'.step W X hn hi hs hp, S2, r2.trans r'⟩
    show f_X11_settle_b101_body N (f_X11_settle_b101 N n') h' 1 (nI s) z (nI i) = _
    unfold f_X11_settle_b101_body
    rw [kr1_2 C', obs, kz12 C', obs, if_neg hnn, obs, kg12 C' Q'.1.1 hiy, obs, kc300 C' hiy, obs, kr1_19 C', obs, x2, obs, e2, obs, nI_1]
theorem r_setL2 (H : RS h σ) (W : WV σ) (X : WX σ n) (hn : n ≤ 600) (hs : s < 16) (hp : cn σ 49 + pyN σ s (cn σ 26) ≤ 200) (hN : 1000 < N) {z : Int32} : ∃ h', f_X12_settle_b67 N N h 100 (nI s) z 0 = some (z, h') ∧ RS h' (itr (setT σ s) 0 (cn σ 26) σ) ∧ FRc h h' := by
  have hF := W.1.f
  refine (lpS (σ := AH) (α := SG) (fun n i h _ => f_X12_settle_b67 N n h 100 (nI s) z (nI i)) (setT σ s) (cn σ 26) (fun h' _ => some (z, h')) (fun i h' y => RS h' y ∧ QS σ s n i y ∧ FRc h h') ?_ ?_ (cn σ 26) N 0 h σ (by omega) (by omega) ⟨H, QS.zero W X, FRc.refl⟩).elim (fun h' e => ⟨h', e.1, e.2.1, e.2.2.2⟩)
  · intro n' h' y ⟨H', Q', F'⟩
    have hle : y.1 26 ≤ nI (cn σ 26) := by rw [Q'.2.2.1, hF.1]; exact Int32.le_refl _
    show f_X12_settle_b67_body N (f_X12_settle_b67 N n') h' 100 (nI s) z (nI (cn σ 26)) = _
    unfold f_X12_settle_b67_body
    rw [RS.gi H', obs, if_pos hle]
  · intro n' i h' y hi ⟨H', Q', F'⟩
    obtain ⟨h2, e2, H2, F2⟩ := r_setF (N := N) (z := z) (m := n') H' Q' W X hn hi hs hp (by omega)
    exact ⟨h2, e2, H2, Q'.step W X hn hi hs hp, F'.trans F2⟩
theorem pub_settle {a : Int32} (I : INV L xs h σ tr u n) (hN : 2000 < N) (hn : n ≤ 600) : ∃ v h1 h2 σ' tr' u', f_X11_settle h N 1 a = some (v, h1) ∧ f_X12_settle h1 N 100 a = some (v, h2) ∧ (kd h1 9000 = 30 ∧ ln h1 9000 = L ∧ ai h1 9000 = xs) ∧ INV L xs h2 σ' tr' u' (n + 1) := by
  obtain ⟨C, H, W, X, S, U⟩ := id I
  rcases okC a (n := 16) (by decide) with oa | ⟨oa, s, hs, rfl⟩
  · exact ⟨-1, h, h, σ, tr, u, by simp only [f_X11_settle, obs, b10, b01, bm, if_true_, if_false_, eq_self, not_true_eq_false, not_false_eq_true, true_or, or_true, or_false, false_or, and_true, true_and, and_false, false_and, or_self, and_self, Bool.false_eq_true, ite_self, n25, n20, n24, n100, kk1 C, RS.kk H, c_isGauge C W.1, c_isTerm C W.1, c_isFarm C W.1, c_isSeason, c_isPlace, r_isGauge H W.1, r_isTerm H W.1, r_isFarm H W.1, r_isSeason, r_isWeek, r_isPlace, r_isSheet, ci1, ri1, ci2, ri2, ci3, ri3, ci4, ri4, ci5, ri5, ci11, ri11, ci16, ri16, ci98, ri98, ci99, ri99, ci198, ri198, ci9999, ri9999, oa], by simp only [f_X12_settle, obs, b10, b01, bm, if_true_, if_false_, eq_self, not_true_eq_false, not_false_eq_true, true_or, or_true, or_false, false_or, and_true, true_and, and_false, false_and, or_self, and_self, Bool.false_eq_true, ite_self, n25, n20, n24, n100, kk1 C, RS.kk H, c_isGauge C W.1, c_isTerm C W.1, c_isFarm C W.1, c_isSeason, c_isPlace, r_isGauge H W.1, r_isTerm H W.1, r_isFarm H W.1, r_isSeason, r_isWeek, r_isPlace, r_isSheet, ci1, ri1, ci2, ri2, ci3, ri3, ci4, ri4, ci5, ri5, ci11, ri11, ci16, ri16, ci98, ri98, ci99, ri99, ci198, ri198, ci9999, ri9999, oa], S, I.up (by omega)⟩
  obtain ⟨h1, e1, S1, hw⟩ := c_setL1 (N := N) C W hs (by omega)
  have I1 := I.scr S1
  have hP := W.1.p
  have hF := W.1.f
  have pl := py_le (σ := σ) (s := s) (cn σ 26)
  have x1 : f_X11_settle h N 1 (nI s) = f_X11_settle_b13 N N h 1 (nI s) 0 0 := by
    simp only [f_X11_settle, obs, b10, b01, bm, if_true_, if_false_, eq_self, not_true_eq_false, not_false_eq_true, true_or, or_true, or_false, false_or, and_true, true_and, and_false, false_and, or_self, and_self, Bool.false_eq_true, ite_self, n25, n20, n24, n100, kk1 C, RS.kk H, c_isGauge C W.1, c_isTerm C W.1, c_isFarm C W.1, c_isSeason, c_isPlace, r_isGauge H W.1, r_isTerm H W.1, r_isFarm H W.1, r_isSeason, r_isWeek, r_isPlace, r_isSheet, ci1, ri1, ci2, ri2, ci3, ri3, ci4, ri4, ci5, ri5, ci11, ri11, ci16, ri16, ci98, ri98, ci99, ri99, ci198, ri198, ci9999, ri9999, oa]
  have x2 : ∀ h2, RS h2 σ → f_X12_settle h2 N 100 (nI s) = f_X12_settle_b13 N N h2 100 (nI s) 0 0 := by
    intro h2 H2
    simp only [f_X12_settle, obs, b10, b01, bm, if_true_, if_false_, eq_self, not_true_eq_false, not_false_eq_true, true_or, or_true, or_false, false_or, and_true, true_and, and_false, false_and, or_self, and_self, Bool.false_eq_true, ite_self, n25, n20, n24, n100, RS.kk H2, r_isSeason, oa]
  by_cases q : nI (cn σ 49 + pyN σ s (cn σ 26)) ≤ 200
  · have q' : cn σ 49 + pyN σ s (cn σ 26) ≤ 200 := by
      rwa [lt200, nI_leI (by omega) (by omega)] at q
    obtain ⟨h2, e2, C2, H2, Q2, S2⟩ := c_setL2 (N := N) (z := nI (pyN σ s (cn σ 26))) I1.1 I1.2.1 W X I1.2.2.2.2.1 hn hs q' (by omega) hw
    obtain ⟨h3, e3, H3, F3⟩ := r_setL2 (N := N) (z := nI (pyN σ s (cn σ 26))) H2 W X hn hs q' (by omega)
    refine ⟨nI (pyN σ s (cn σ 26)), h2, h3, itr (setT σ s) 0 (cn σ 26) σ, tr, u, ?_, ?_, S2, I.st C2 F3 H3 Q2.1 Q2.2.1 S2 (by omega)⟩
    · rw [x1, e1, if_pos q, e2]
    · rw [x2 h2 H2, r_setL1 H2 W hs (by omega), if_pos q, e3]
  · refine ⟨-4, h1, h1, σ, tr, u, ?_, ?_, I1.2.2.2.2.1, I1.up (by omega)⟩
    · rw [x1, e1, if_neg q]
    · rw [x2 h1 I1.2.1, r_setL1 I1.2.1 W hs (by omega), if_neg q]
end
