/-! ===== public: feed, sheet, copy ===== -/
section
variable {L N : Nat} {xs : Nat → Int32} {h h' : AH} {σ σ' : SG} {tr : Nat → Nat} {u n : Nat}
theorem i8_255 (y : Int32) : (y &&& 255).toInt8 = y.toInt8 := by
  apply Int8.toBitVec_inj.mp
  rw [Int32.toBitVec_toInt8, Int32.toBitVec_toInt8, Int32.toBitVec_and]
  apply BitVec.eq_of_getLsbD_eq
  intro i hi
  have t : ∀ i : Fin 8, (255 : Int32).toBitVec.getLsbD i.val = true := by decide
  rw [BitVec.getLsbD_signExtend, BitVec.getLsbD_signExtend, if_pos (show i < 32 by omega), if_pos (show i < 32 by omega), BitVec.getLsbD_and, t ⟨i, hi⟩, Bool.and_true]
theorem and_255 (y : Int32) : bd (y &&& 255) 256 := by
  have e : (y &&& 255).toBitVec.toNat < 256 := by
    rw [Int32.toBitVec_and, BitVec.toNat_and]
    exact Nat.lt_of_le_of_lt Nat.and_le_right (by decide)
  refine ⟨(y &&& 255).toBitVec.toNat, e, ?_⟩
  apply Int32.toBitVec_inj.mp
  show _ = BitVec.ofNat 32 (y &&& 255).toBitVec.toNat
  rw [BitVec.ofNat_toNat, BitVec.setWidth_eq]
def fedV (a : Int32) (k : Nat) : Int32 := a >>> ((8 * nI k) &&& 31)
def fedS (σ : SG) (v : Int32) : SG := s1 (s2 σ 62 (cn σ 63) (v &&& 255)) 63 (nI (cn σ 63 + 1))
def fedH (h : AH) (σ : SG) (v : Int32) : AH := sfi (sai h 33 (cn σ 63) v.toInt8.toInt32) 15 1 (nI (cn σ 63 + 1))
theorem fed_c {v : Int32} (W : CT σ) : cn (fedS σ v) 63 = cn σ 63 + 1 := by
  have := W.a
  exact cn_eq (show (s1 σ 63 (nI (cn σ 63 + 1))).1 63 = nI (cn σ 63 + 1) from s1_eq) (by omega)
theorem fed_cs {v : Int32} (C : CS h σ tr u) (W : WV σ) (hT : cn σ 63 < 100) : CS (fedH h σ v) (fedS σ v) tr u := by
  have tA : ∀ q ∈ dA, 33 ≠ q.1 := by decide
  have tB : ∀ q ∈ dB, 33 < q.1 ∨ q.1 + q.2.2.2.2 ≤ 33 := by decide
  have tF2 : ∀ q ∈ dF, q.2.2.1 ≠ 62 := by decide
  have tA2 : ∀ q ∈ dA, q.2.2.2.1 ≠ 62 := by decide
  have tB2 : ∀ q ∈ dB, q.2.2.1 ≠ 62 := by decide
  have D1 : DD (sai h 33 (cn σ 63) v.toInt8.toInt32) (s2 σ 62 (cn σ 63) (v &&& 255)) := (C.d.oA W.1.B tA tB).o2 tF2 tA2 tB2
  have D2 : DD (fedH h σ v) (fedS σ v) := DD.wI D1 W.1.F (r := 15) (f := 1) (k := 63) (by decide) (by decide)
  refine C.of4 rfl rfl rfl rfl D2 (fun r hr => ?_) (fun j hj => ⟨?_, ?_⟩) (fun r hr => ?_) (fun k hk => ?_) (fun k hk => ?_) ?_ (fun i hi => ?_) W.1
  · exact ai_sai_ne (by omega)
  · show fi (sfi (sai h 33 (cn σ 63) v.toInt8.toInt32) 15 1 (nI (cn σ 63 + 1))) (300 + j) 0 = _
    rw [fi_sfi_ne (by omega)]; rfl
  · show fi (sfi (sai h 33 (cn σ 63) v.toInt8.toInt32) 15 1 (nI (cn σ 63 + 1))) (360 + j) = _
    rw [fi_sfi_ne (by omega)]; rfl
  · show fi (sfi (sai h 33 (cn σ 63) v.toInt8.toInt32) 15 1 (nI (cn σ 63 + 1))) r = _
    rw [fi_sfi_ne (by omega)]; rfl
  · have t : ∀ k ∈ ks3, k ≠ 63 := by decide
    exact s1_ne (t k hk)
  · have t : ∀ k ∈ ks4, k ≠ 62 := by decide
    exact s2_row (t k hk)
  · have tt := C.2.2.2.2.2.2.1
    have c7 : cn (fedS σ v) 7 = cn σ 7 := by unfold cn; rw [show (fedS σ v).1 7 = σ.1 7 from s1_ne (by decide)]
    have g8 : (fedS σ v).2 8 = σ.2 8 := (show (s2 σ 62 (cn σ 63) (v &&& 255)).2 8 = σ.2 8 from s2_row (by decide))
    have g9 : (fedS σ v).2 9 = σ.2 9 := (show (s2 σ 62 (cn σ 63) (v &&& 255)).2 9 = σ.2 9 from s2_row (by decide))
    have g10 : (fedS σ v).2 10 = σ.2 10 := (show (s2 σ 62 (cn σ 63) (v &&& 255)).2 10 = σ.2 10 from s2_row (by decide))
    have hcix : ∀ i, cix (fedS σ v) i = cix σ i := fun i => by unfold cix; rw [g8, g9]
    have hlN : ∀ k c, lN_ (fedS σ v) k c = lN_ σ k c := by
      intro k
      induction k with
      | zero => intro c; rfl
      | succ k ih => intro c; unfold lN_; rw [hcix, ih]
    have a30 : ai (fedH h σ v) 30 = ai h 30 := ai_sai_ne (by omega)
    have a31 : ai (fedH h σ v) 31 = ai h 31 := ai_sai_ne (by omega)
    have a32 : ai (fedH h σ v) 32 = ai h 32 := ai_sai_ne (by omega)
    unfold TT
    rw [a30, a31, a32, c7, g10]
    exact ⟨fun c hc => by rw [hlN]; exact tt.1 c hc, fun n hn => by rw [hlN, hcix]; exact tt.2 n hn⟩
  · show ai (sai h 33 (cn σ 63) v.toInt8.toInt32) 33 i = sx ((s2 σ 62 (cn σ 63) (v &&& 255)).2 62 i)
    rw [ai_sai, s2_ite]
    by_cases e : i = cn σ 63
    · rw [if_pos ⟨rfl, e⟩, if_pos ⟨rfl, e⟩]
      unfold sx
      rw [i8_255]
    · rw [if_neg (fun z => e z.2), if_neg (fun z => e z.2)]
      exact C.2.2.2.2.2.2.2.1 i hi
theorem fed_wv {v : Int32} (W : WV σ) (hT : cn σ 63 < 100) : WV (fedS σ v) := by
  refine W.of2 (CT.cc (σ := s2 σ 62 (cn σ 63) (v &&& 255)) W.1 (fun q hq e => ?_) (by omega)) (fun k hk => ?_) (fun k hk => ?_) ((W.2.1.w2_n (by decide)).w1 (by decide)) ?_
  · have t : ∀ q ∈ cmax, q.1 = 63 → q.2 = 100 := by decide
    rw [t q hq e]; omega
  · have t : ∀ k ∈ vs3, k ≠ 63 := by decide
    exact s1_ne (t k hk)
  · exact vs2_row (by decide) k hk
  · exact WL_s2 (σ := σ) (k := 62) (j := cn σ 63) (x := v &&& 255) W.2.2.1 (by decide)
theorem fed_wx {v : Int32} (X : WX σ n) : WX (fedS σ v) n := by
  obtain ⟨y1, y2, y3, y4, y5, y6, y7⟩ := X
  refine ⟨y1, y2, fun i hi => ?_, y4, y5, y6, y7⟩
  show bd ((s2 σ 62 (cn σ 63) (v &&& 255)).2 62 i) 256
  rw [s2_ite]
  by_cases e : i = cn σ 63
  · rw [if_pos ⟨rfl, e⟩]; exact and_255 v
  · rw [if_neg (fun z => e z.2)]; exact y3 i hi
theorem i8_i8 (x : Int32) : x.toInt8.toInt32.toInt8 = x.toInt8 := by rw [Int8.toInt8_toInt32]
def fedT (a : Int32) (m i : Nat) (σ : SG) : SG := fedS σ (fedV a (m - i - 1))
theorem c_fedL {m : Nat} {a : Int32} (I : INV L xs h σ tr u n) (hm : m ≤ 4) (hT : cn σ 63 + m ≤ 100) (hN : 100 < N) : ∃ h1, f_X8_append h N 15 a (nI m) = some h1 ∧ CS h1 (itr (fedT a m) 0 m σ) tr u ∧ RS h1 σ ∧ WV (itr (fedT a m) 0 m σ) ∧ WX (itr (fedT a m) 0 m σ) n ∧ (kd h1 9000 = 30 ∧ ln h1 9000 = L ∧ ai h1 9000 = xs) := by
  obtain ⟨C, H, W, X, S, U⟩ := id I
  unfold f_X8_append
  rw [if_pos (kk15 C)]
  refine (lpS (σ := AH) (α := SG) (fun n i h _ => f_X8_append_b4 N n h 15 a (nI (m - i) - 1)) (fedT a m) m (fun h' _ => some h') (fun i h' s => CS h' s tr u ∧ RS h' σ ∧ WV s ∧ WX s n ∧ (kd h' 9000 = 30 ∧ ln h' 9000 = L ∧ ai h' 9000 = xs) ∧ cn s 63 = cn σ 63 + i) ?_ ?_ m N 0 h σ (by omega) (by omega) ⟨C, H, W, X, S, rfl⟩).elim (fun h1 e => ⟨h1, e.1, e.2.1, e.2.2.1, e.2.2.2.1, e.2.2.2.2.1, e.2.2.2.2.2.1⟩)
  · intro n h' s _
    have z : nI (m - m) - 1 < 0 := by rw [Nat.sub_self]; decide
    simp only [f_X8_append_b4, f_X8_append_b4_body, z, if_true_]
  · intro n i h' s hi ⟨C', H', W', X', S', hc⟩
    obtain ⟨k, hk⟩ : ∃ k, m - i = k + 1 := ⟨m - i - 1, by omega⟩
    have hA := W'.1.a
    have z : nI (m - i) - 1 = nI k := by rw [hk]; exact nI_pred k
    have z0 : ¬ nI k < 0 := nI_pos (by omega)
    have z1 : ¬ (100 : Int32) ≤ nI (cn s 63) := by rw [lt100, nI_leI (by decide) (by omega)]; omega
    have z2 : nI k + (-1) = nI (m - (i + 1)) - 1 := by
      rw [show m - (i + 1) = k by omega, Int32.sub_eq_add_neg]
    have kd33 : kd h' 33 = 22 := kk33 C'
    have ln33 : ln h' 33 = 100 := kl C' (by decide)
    have x1 : xbs h' 33 (nI (cn s 63)) (fedV a k).toInt8.toInt32 = some (sai h' 33 (cn s 63) (fedV a k).toInt8.toInt32) := by
      unfold xbs
      rw [if_neg (by rw [kd33]; omega), if_pos ⟨kd33, by rw [ln33]; exact nI_in (by omega) (by decide)⟩, nI_clamp (by omega), i8_i8]
    have k15 : kd (sai h' 33 (cn s 63) (fedV a k).toInt8.toInt32) 15 = 9 + 1 := (show kd h' 15 = 10 from kk15 C')
    have f15 : fi h' 15 1 = nI (cn s 63) := by rw [C'.d.1 (15, 1, 63) (by decide)]; exact hA.1
    have x2 : xgi (sai h' 33 (cn s 63) (fedV a k).toInt8.toInt32) 15 9 1 = some (nI (cn s 63)) := by rw [xgi_ok k15]; exact congrArg some f15
    have x3 : xpi (sai h' 33 (cn s 63) (fedV a k).toInt8.toInt32) 15 9 1 (nI (cn s 63 + 1)) = some (fedH h' s (fedV a k)) := xpi_ok k15
    have ei : m - i - 1 = k := by omega
    refine ⟨fedH h' s (fedV a k), ?_, ?_, rsF (rsA H' (by omega)) (by omega), ?_, ?_, sfi_9 (sai_9 S' (by omega)), ?_⟩
    · show f_X8_append_b4_body N (f_X8_append_b4 N n) h' 15 a (nI (m - i) - 1) = _
      unfold f_X8_append_b4_body
      rw [z, if_neg z0, ki15_1 C', obs, hA.1, if_neg z1, kr15_0 C', obs, obs, show (a >>> ((8 * nI k) &&& 31)) = fedV a k from rfl, x1, obs, x2, obs, nI_1, x3, obs, z2]
    · unfold fedT; rw [ei]; exact fed_cs C' W' (by omega)
    · unfold fedT; exact fed_wv W' (by omega)
    · unfold fedT; exact fed_wx X'
    · unfold fedT; rw [fed_c W'.1]; omega
theorem r_fedL {m : Nat} {a : Int32} {h1 : AH} (H : RS h1 σ) (W : WV σ) (hm : m ≤ 4) (hT : cn σ 63 + m ≤ 100) (hN : 100 < N) : ∃ h2, f_X12_feed_b30 N N h1 100 a (nI m - 1) = some ((itr (fedT a m) 0 m σ).1 63, h2) ∧ RS h2 (itr (fedT a m) 0 m σ) ∧ FRc h1 h2 := by
  refine (lpS (σ := AH) (α := SG) (fun n i h _ => f_X12_feed_b30 N n h 100 a (nI (m - i) - 1)) (fedT a m) m (fun h' s => some (s.1 63, h')) (fun i h' s => RS h' s ∧ FRc h1 h' ∧ WV s ∧ cn s 63 = cn σ 63 + i) ?_ ?_ m N 0 h1 σ (by omega) (by omega) ⟨H, FRc.refl, W, rfl⟩).elim (fun h2 e => ⟨h2, e.1, e.2.1, e.2.2.1⟩)
  · intro n h' s ⟨H', _⟩
    have z : nI (m - m) - 1 < 0 := by rw [Nat.sub_self]; decide
    simp only [f_X12_feed_b30, f_X12_feed_b30_body, z, if_true_, RS.gi H', obs]
  · intro n i h' s hi ⟨H', F', W', hc⟩
    obtain ⟨k, hk⟩ : ∃ k, m - i = k + 1 := ⟨m - i - 1, by omega⟩
    have hA := W'.1.a
    have z : nI (m - i) - 1 = nI k := by rw [hk]; exact nI_pred k
    have z0 : ¬ nI k < 0 := nI_pos (by omega)
    have z2 : nI k + (-1) = nI (m - (i + 1)) - 1 := by
      rw [show m - (i + 1) = k by omega, Int32.sub_eq_add_neg]
    have ei : m - i - 1 = k := by omega
    have w1 := rw62 H' (n := cn s 63) (x := fedV a k &&& 255) (by omega)
    have w2 := w1.2.fi 63 (nI (cn s 63 + 1))
    have c1 : (s2 s 62 (cn s 63) (fedV a k &&& 255)).1 63 = nI (cn s 63) := hA.1
    refine ⟨sfi (sai h' 162 (cn s 63) (fedV a k &&& 255)) 100 63 (nI (cn s 63 + 1)), ?_, ?_, F'.trans ((FRc.a (r := 162) (by omega) (by omega)).trans FRc.f), ?_, ?_⟩
    · show f_X12_feed_b30_body N (f_X12_feed_b30 N n) h' 100 a (nI (m - i) - 1) = _
      unfold f_X12_feed_b30_body
      rw [z, if_neg z0, rg62 H', obs, RS.gi H', obs, hA.1, show (a >>> ((8 * nI k) &&& 31)) = fedV a k from rfl, w1.1, obs, RS.gi w1.2, obs, c1, nI_1, w1.2.pi, obs, z2]
    · unfold fedT; rw [ei]; exact w2
    · unfold fedT; exact fed_wv W' (by omega)
    · unfold fedT; rw [fed_c W'.1]; omega
theorem pub_feed {a b : Int32} (I : INV L xs h σ tr u n) (hN : 2000 < N) : ∃ v h1 h2 σ' tr' u', f_X11_feed h N 1 a b = some (v, h1) ∧ f_X12_feed h1 N 100 a b = some (v, h2) ∧ (kd h1 9000 = 30 ∧ ln h1 9000 = L ∧ ai h1 9000 = xs) ∧ INV L xs h2 σ' tr' u' (n + 1) := by
  obtain ⟨C, H, W, X, S, U⟩ := id I
  have hA := W.1.a
  rcases okC b (n := 5) (by decide) with ob | ⟨ob, m, hm, rfl⟩
  · exact ⟨-2, h, h, σ, tr, u, by simp only [f_X11_feed, obs, b10, b01, bm, if_true_, if_false_, eq_self, not_true_eq_false, not_false_eq_true, true_or, or_true, or_false, false_or, and_true, true_and, and_false, false_and, or_self, and_self, Bool.false_eq_true, ite_self, n25, n20, n24, n100, kk1 C, RS.kk H, c_isGauge C W.1, c_isTerm C W.1, c_isFarm C W.1, c_isSeason, c_isPlace, r_isGauge H W.1, r_isTerm H W.1, r_isFarm H W.1, r_isSeason, r_isWeek, r_isPlace, r_isSheet, ci1, ri1, ci2, ri2, ci3, ri3, ci4, ri4, ci5, ri5, ci11, ri11, ci16, ri16, ci98, ri98, ci99, ri99, ci198, ri198, ci9999, ri9999, ob], by simp only [f_X12_feed, obs, b10, b01, bm, if_true_, if_false_, eq_self, not_true_eq_false, not_false_eq_true, true_or, or_true, or_false, false_or, and_true, true_and, and_false, false_and, or_self, and_self, Bool.false_eq_true, ite_self, n25, n20, n24, n100, kk1 C, RS.kk H, c_isGauge C W.1, c_isTerm C W.1, c_isFarm C W.1, c_isSeason, c_isPlace, r_isGauge H W.1, r_isTerm H W.1, r_isFarm H W.1, r_isSeason, r_isWeek, r_isPlace, r_isSheet, ci1, ri1, ci2, ri2, ci3, ri3, ci4, ri4, ci5, ri5, ci11, ri11, ci16, ri16, ci98, ri98, ci99, ri99, ci198, ri198, ci9999, ri9999, ob], S, I.up (by omega)⟩
  by_cases q : cn σ 63 + m ≤ 100
  · have q1 : ¬ (100 : Int32) < nI (cn σ 63) + nI m := by rw [lt100, nI_add, nI_ltI (by decide) (by omega)]; omega
    have q2 : nI (cn σ 63) + nI m ≤ 100 := by rw [lt100, nI_add, nI_leI (by omega) (by decide)]; exact q
    have rm : f_X8_hasRoomFor h 15 (nI m) = some 1 := by
      unfold f_X8_hasRoomFor
      rw [if_pos (kk15 C), ki15_1 C, obs, hA.1, if_neg q1]
    obtain ⟨h1, e1, C1, H1, W1, X1, S1⟩ := c_fedL (N := N) (m := m) (a := a) I (by omega) q (by omega)
    obtain ⟨h2, e2, H2, F2⟩ := r_fedL (N := N) (m := m) (a := a) H1 W (by omega) q (by omega)
    refine ⟨(itr (fedT a m) 0 m σ).1 63, h1, h2, itr (fedT a m) 0 m σ, tr, u, ?_, ?_, S1, I.st C1 F2 H2 W1 (X1.up (by omega)) S1 (by omega)⟩
    · simp only [f_X11_feed, obs, b10, b01, bm, if_true_, if_false_, eq_self, not_true_eq_false, not_false_eq_true, true_or, or_true, or_false, false_or, and_true, true_and, and_false, false_and, or_self, and_self, Bool.false_eq_true, ite_self, n25, n20, n24, n100, kk1 C, RS.kk H, c_isGauge C W.1, c_isTerm C W.1, c_isFarm C W.1, c_isSeason, c_isPlace, r_isGauge H W.1, r_isTerm H W.1, r_isFarm H W.1, r_isSeason, r_isWeek, r_isPlace, r_isSheet, ci1, ri1, ci2, ri2, ci3, ri3, ci4, ri4, ci5, ri5, ci11, ri11, ci16, ri16, ci98, ri98, ci99, ri99, ci198, ri198, ci9999, ri9999, ob, kr1_5 C, rm, e1, kr1_5 C1, ki15_1 C1]
    · simp only [f_X12_feed, obs, b10, b01, bm, if_true_, if_false_, eq_self, not_true_eq_false, not_false_eq_true, true_or, or_true, or_false, false_or, and_true, true_and, and_false, false_and, or_self, and_self, Bool.false_eq_true, ite_self, n25, n20, n24, n100, RS.kk H1, ri4, ob, RS.gi H1, hA.1, q2, e2]
  · have q1 : (100 : Int32) < nI (cn σ 63) + nI m := by rw [lt100, nI_add, nI_ltI (by decide) (by omega)]; omega
    have q2 : ¬ nI (cn σ 63) + nI m ≤ 100 := by rw [lt100, nI_add, nI_leI (by omega) (by decide)]; exact q
    have rm : f_X8_hasRoomFor h 15 (nI m) = some 0 := by
      unfold f_X8_hasRoomFor
      rw [if_pos (kk15 C), ki15_1 C, obs, hA.1, if_pos q1]
    exact ⟨-4, h, h, σ, tr, u, by simp only [f_X11_feed, obs, b10, b01, bm, if_true_, if_false_, eq_self, not_true_eq_false, not_false_eq_true, true_or, or_true, or_false, false_or, and_true, true_and, and_false, false_and, or_self, and_self, Bool.false_eq_true, ite_self, n25, n20, n24, n100, kk1 C, RS.kk H, c_isGauge C W.1, c_isTerm C W.1, c_isFarm C W.1, c_isSeason, c_isPlace, r_isGauge H W.1, r_isTerm H W.1, r_isFarm H W.1, r_isSeason, r_isWeek, r_isPlace, r_isSheet, ci1, ri1, ci2, ri2, ci3, ri3, ci4, ri4, ci5, ri5, ci11, ri11, ci16, ri16, ci98, ri98, ci99, ri99, ci198, ri198, ci9999, ri9999, ob, kr1_5 C, rm], by simp only [f_X12_feed, obs, b10, b01, bm, if_true_, if_false_, eq_self, not_true_eq_false, not_false_eq_true, true_or, or_true, or_false, false_or, and_true, true_and, and_false, false_and, or_self, and_self, Bool.false_eq_true, ite_self, n25, n20, n24, n100, kk1 C, RS.kk H, c_isGauge C W.1, c_isTerm C W.1, c_isFarm C W.1, c_isSeason, c_isPlace, r_isGauge H W.1, r_isTerm H W.1, r_isFarm H W.1, r_isSeason, r_isWeek, r_isPlace, r_isSheet, ci1, ri1, ci2, ri2, ci3, ri3, ci4, ri4, ci5, ri5, ci11, ri11, ci16, ri16, ci98, ri98, ci99, ri99, ci198, ri198, ci9999, ri9999, ob, RS.gi H, hA.1, q2], S, I.up (by omega)⟩
end
