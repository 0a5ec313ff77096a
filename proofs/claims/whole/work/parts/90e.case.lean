/-! ===== cases of a term ===== -/
section
variable {L N : Nat} {xs : Nat → Int32} {h h' h0 h1 h2 : AH} {σ σ' y : SG} {tr : Nat → Nat} {u n b i t c : Nat} {s : Nat × Bool} {a a' : Nat → Nat → Int32}
def BK (h : AH) (b : Nat) : Prop := (kd h b = 12 ∧ kd h (b + 1) = 20 ∧ kd h (b + 2) = 20 ∧ kd h (b + 3) = 20 ∧ kd h (b + 4) = 21 ∧ kd h (b + 5) = 20) ∧ (∀ d, d < 5 → ln h (b + 1 + d) = 4 ∧ fr h b (6 + d) = some (b + 1 + d)) ∧ 1000 ≤ b ∧ b + 5 < 9000
def FV (a : Nat → Nat → Int32) (h h' : AH) : Prop := (kd h' = kd h ∧ ln h' = ln h ∧ fr h' = fr h ∧ ar h' = ar h ∧ ai h' = a) ∧ ∀ r k, ¬ (r = 15 ∧ (k = 2 ∨ k = 3)) → fi h' r k = fi h r k
theorem FV.of (F : FW h h') : FV (ai h) h h' := F
theorem FV.w (F : FV a h h1) {r k : Nat} {x : Int32} : FV (up2 a r k x) h (sai h1 r k x) := by
  obtain ⟨⟨f1, f2, f3, f4, f5⟩, f6⟩ := F
  refine ⟨⟨f1, f2, f3, f4, ?_⟩, f6⟩
  show up2 (ai h1) r k x = _
  rw [f5]
theorem FV.f (F : FV a h h1) (G : FW h1 h2) : FV a h h2 := by
  obtain ⟨⟨f1, f2, f3, f4, f5⟩, f6⟩ := F
  obtain ⟨⟨g1, g2, g3, g4, g5⟩, g6⟩ := G
  exact ⟨⟨g1.trans f1, g2.trans f2, g3.trans f3, g4.trans f4, g5.trans f5⟩, fun r k hk => (g6 r k hk).trans (f6 r k hk)⟩
theorem FV.trans (F : FV a h h1) (G : FV a' h1 h2) : FV a' h h2 := by
  obtain ⟨⟨f1, f2, f3, f4, f5⟩, f6⟩ := F
  obtain ⟨⟨g1, g2, g3, g4, g5⟩, g6⟩ := G
  exact ⟨⟨g1.trans f1, g2.trans f2, g3.trans f3, g4.trans f4, g5⟩, fun r k hk => (g6 r k hk).trans (f6 r k hk)⟩
theorem BK.fv (K : BK h b) (F : FV a h h') : BK h' b := by
  obtain ⟨⟨f1, f2, f3, f4, f5⟩, f6⟩ := F
  unfold BK at K ⊢
  rw [f1, f2, f3]
  exact K
theorem TC.sai (T : TC h σ) {r k : Nat} {x : Int32} (h1 : 1000 ≤ r) (h2 : r < 9000) : TC (sai h r k x) σ := by
  obtain ⟨t1, t2, t3, t4, t5⟩ := T
  refine ⟨t1, fun i hi => ?_, t3, t4, fun i hi => ?_⟩
  · rw [ai_sai_ne (by omega)]; exact t2 i hi
  · rw [ai_sai_ne (by omega)]; exact t5 i hi
theorem BK.is (K : BK h b) {d : Nat} {x : Int32} (hd : d = 0 ∨ d = 1 ∨ d = 2 ∨ d = 4) (hi : i < 4) : xis h (b + 1 + d) (nI i) x = some (sai h (b + 1 + d) i x) := by
  obtain ⟨⟨k0, k1, k2, k3, k4, k5⟩, l, -⟩ := K
  rcases hd with rfl | rfl | rfl | rfl
  · exact xis_of k1 (l 0 (by omega)).1 hi (by decide)
  · exact xis_of k2 (l 1 (by omega)).1 hi (by decide)
  · exact xis_of k3 (l 2 (by omega)).1 hi (by decide)
  · exact xis_of k5 (l 4 (by omega)).1 hi (by decide)
theorem BK.gr (K : BK h b) {d : Nat} (hd : d < 5) : xgr h b 11 (6 + d) = some (b + 1 + d) := by
  rw [xgr_ok K.1.1]; exact (K.2.1 d hd).2
def spS (σ : SG) (s : Nat × Bool) : Int32 × (Nat × Bool) := nmS σ 2 (wdS σ (SBYT.getD 4 []) (nmS σ 2 s).2)
theorem c_span (K : BK h b) (T : TC h σ) (Z : TS h s) (hs : s.1 ≤ cn σ 63) (hi : i < 4) (hN : 100 < N) : ∃ h', f_X8_readSpan h N 15 b (nI i) = some h' ∧ TC h' σ ∧ TS h' (spS σ s).2 ∧ (spS σ s).2.1 ≤ cn σ 63 ∧ FV (up2 (up2 (ai h) (b + 2) i (nmS σ 2 s).1) (b + 3) i (spS σ s).1) h h' := by
  obtain ⟨hb1, hb2⟩ := K.2.2
  obtain ⟨h1, e1, Z1, l1, F1⟩ := c_num (N := N) (m := 2) (by omega) T Z hs hN
  have V1 := FV.of F1
  have K1 := K.fv V1
  have T1 := T.fw F1
  have w1 := K1.is (d := 1) (x := (nmS σ 2 s).1) (by omega) hi
  have T2 := T1.sai (r := b + 2) (k := i) (x := (nmS σ 2 s).1) (by omega) (by omega)
  have V2 := V1.w (r := b + 2) (k := i) (x := (nmS σ 2 s).1)
  have K2 := K.fv V2
  have Z2 : TS (sai h1 (b + 2) i (nmS σ 2 s).1) (nmS σ 2 s).2 := Z1
  obtain ⟨h3, e3, Z3, l3, F3⟩ := c_word (N := N) (i := 4) (by omega) T2 Z2 l1 hN
  have V3 := V2.f F3
  have K3 := K.fv V3
  obtain ⟨h4, e4, Z4, l4, F4⟩ := c_num (N := N) (m := 2) (by omega) (T2.fw F3) Z3 l3 hN
  have V4 := V3.f F4
  have K4 := K.fv V4
  have w4 := K4.is (d := 2) (x := (spS σ s).1) (by omega) hi
  refine ⟨sai h4 (b + 3) i (spS σ s).1, ?_, ((T2.fw F3).fw F4).sai (by omega) (by omega), Z4, l4, V4.w⟩
  unfold f_X8_readSpan
  have g1 : xgr h b 11 7 = some (b + 2) := K.gr (d := 1) (by omega)
  have g3 : xgr h3 b 11 8 = some (b + 3) := K3.gr (d := 2) (by omega)
  have e1' : f_X8_number h N 15 2 = some ((nmS σ 2 s).1, h1) := e1
  have e4' : f_X8_number h3 N 15 2 = some ((spS σ s).1, h4) := e4
  rw [if_pos T.1.1, g1, obs, e1', obs]
  show (xis h1 (b + 2) (nI i) (nmS σ 2 s).1).bind _ = _
  rw [w1, obs]
  show (f_X8_word (sai h1 (b + 2) i (nmS σ 2 s).1) N 15 (9100 + 4)).bind _ = _
  rw [e3, obs, g3, obs, e4', obs]
  show (xis h4 (b + 3) (nI i) (spS σ s).1).bind _ = _
  rw [w4, obs]
def e5 (σ : SG) (s : Nat × Bool) : Nat × Bool := wdS σ (SBYT.getD 12 []) s
def eC (σ : SG) (s : Nat × Bool) : Bool := decide (tb σ (e5 σ s).1 = nI 62)
def e6 (σ : SG) (s : Nat × Bool) : Nat × Bool := wdS σ (SBYT.getD (if eC σ s = true then 13 else 14) []) (e5 σ s)
def e7 (σ : SG) (s : Nat × Bool) : Nat × Bool := wdS σ (SBYT.getD 12 []) (e6 σ s)
def e8 (σ : SG) (s : Nat × Bool) : Int32 × (Nat × Bool) := nmS σ 4 (e7 σ s)
theorem c_cmp (K : BK h b) (T : TC h σ) (Z : TS h s) (hs : s.1 ≤ cn σ 63) (hi : i < 4) (hN : 100 < N) : ∃ h', f_X8_readCase_b142 N h 15 b (nI i) = some h' ∧ TC h' σ ∧ TS h' (e8 σ s).2 ∧ (e8 σ s).2.1 ≤ cn σ 63 ∧ FV (up2 (up2 (ai h) (b + 4) i (bI (eC σ s))) (b + 5) i (e8 σ s).1) h h' := by
  obtain ⟨hb1, hb2⟩ := K.2.2
  obtain ⟨h1, q1, Z1, l1, F1⟩ := c_word (N := N) (i := 12) (by omega) T Z hs hN
  have V1 := FV.of F1
  have K1 := K.fv V1
  have T1 := T.fw F1
  have g1 : xgr h1 b 11 9 = some (b + 4) := K1.gr (d := 3) (by omega)
  have n1 := c_next T1 Z1 l1
  have wz : ∀ f : Bool, xbs h1 (b + 4) (nI i) (bI f) = some (sai h1 (b + 4) i (bI f)) := fun f => by
    unfold xbs
    rw [if_pos ⟨K1.1.2.2.2.2.1, by rw [show ln h1 (b + 4) = 4 from (K1.2.1 3 (by omega)).1]; exact nI_in hi (by decide), by cases f <;> decide⟩, nI_clamp (by omega)]
  have T2 := T1.sai (r := b + 4) (k := i) (x := bI (eC σ s)) (by omega) (by omega)
  have V2 := V1.w (r := b + 4) (k := i) (x := bI (eC σ s))
  have K2 := K.fv V2
  have Z2 : TS (sai h1 (b + 4) i (bI (eC σ s))) (e5 σ s) := Z1
  have rb : xba (sai h1 (b + 4) i (bI (eC σ s))) (b + 4) (nI i) = some (bI (eC σ s)) := by
    unfold xba
    rw [if_pos ⟨Or.inl K2.1.2.2.2.2.1, by rw [show ln (sai h1 (b + 4) i (bI (eC σ s))) (b + 4) = 4 from (K2.2.1 3 (by omega)).1]; exact nI_in hi (by decide)⟩, nI_clamp (by omega), ai_sai, if_pos ⟨rfl, rfl⟩]
  have hidx : (if eC σ s = true then 13 else 14) < 16 := by by_cases q : eC σ s = true <;> simp [q]
  obtain ⟨h3, q3, Z3, l3, F3⟩ := c_word (N := N) (i := if eC σ s = true then 13 else 14) hidx T2 Z2 l1 hN
  obtain ⟨h4, q4, Z4, l4, F4⟩ := c_word (N := N) (i := 12) (by omega) (T2.fw F3) Z3 l3 hN
  obtain ⟨h5, q5, Z5, l5, F5⟩ := c_num (N := N) (m := 4) (by omega) ((T2.fw F3).fw F4) Z4 l4 hN
  have V5 := ((V2.f F3).f F4).f F5
  have K4 := K.fv ((V2.f F3).f F4)
  have K5 := K.fv V5
  have w5 := K5.is (d := 4) (x := (e8 σ s).1) (by omega) hi
  have g4 : xgr h4 b 11 10 = some (b + 5) := K4.gr (d := 4) (by omega)
  refine ⟨sai h5 (b + 5) i (e8 σ s).1, ?_, (((T2.fw F3).fw F4).fw F5).sai (by omega) (by omega), Z5, l5, V5.w⟩
  have q5' : f_X8_number h4 N 15 4 = some ((e8 σ s).1, h5) := q5
  have b185 : f_X8_readCase_b185 N (sai h1 (b + 4) i (bI (eC σ s))) 15 b (nI i) (9100 + (if eC σ s = true then 13 else 14)) 15 = some (sai h5 (b + 5) i (e8 σ s).1) := by
    unfold f_X8_readCase_b185
    rw [q3, obs, q4, obs, g4, obs, q5', obs]
    show (xis h5 (b + 5) (nI i) (e8 σ s).1).bind _ = _
    rw [w5, obs]
  have b167 : f_X8_readCase_b167 N h1 15 b (nI i) (bI (eC σ s)) (nI i) (b + 4) = some (sai h5 (b + 5) i (e8 σ s).1) := by
    unfold f_X8_readCase_b167
    rw [wz, obs, show xgr (sai h1 (b + 4) i (bI (eC σ s))) b 11 9 = some (b + 4) from K2.gr (d := 3) (by omega), obs, rb, obs]
    rcases q : eC σ s
    · rw [q] at b185
      rw [if_pos (show bI false = 0 by rfl)]; exact b185
    · rw [q] at b185
      rw [if_neg (by decide)]; exact b185
  unfold f_X8_readCase_b142
  rw [q1, obs, g1, obs, n1, obs]
  have hx : nx σ (e5 σ s).1 = 62 ↔ tb σ (e5 σ s).1 = 62 := nx_eq T1 (c := 62) (by omega)
  by_cases q : tb σ (e5 σ s).1 = 62
  · have e : eC σ s = true := decide_eq_true q
    rw [e] at b167
    rw [if_pos (show nx σ (wdS σ (SBYT.getD 12 []) s).1 = 62 from hx.mpr q)]
    exact b167
  · have e : eC σ s = false := decide_eq_false q
    rw [e] at b167
    rw [if_neg (show ¬ nx σ (wdS σ (SBYT.getD 12 []) s).1 = 62 from fun z => q (hx.mp z))]
    exact b167
def kdS (σ : SG) (s : Nat × Bool) : Nat := if tb σ s.1 = nI 100 then 1 else if tb σ s.1 = nI 103 then 2 else if tb σ s.1 = nI 115 then 0 else 3
def q1 (σ : SG) (s : Nat × Bool) : Nat × Bool := wdS σ (SBYT.getD (8 + kdS σ s) []) s
def q2 (σ : SG) (s : Nat × Bool) : Int32 × (Nat × Bool) := nmS σ 2 (q1 σ s)
def q4 (σ : SG) (s : Nat × Bool) : Int32 × (Nat × Bool) := if kdS σ s = 3 then q2 σ s else spS σ (q1 σ s)
def q8 (σ : SG) (s : Nat × Bool) : Int32 × (Nat × Bool) := e8 σ (q4 σ s).2
def CAI (a : Nat → Nat → Int32) (b i : Nat) (σ : SG) (s : Nat × Bool) : Nat → Nat → Int32 := up2 (up2 (up2 (up2 (up2 a (b + 1) i (nI (kdS σ s))) (b + 2) i (q2 σ s).1) (b + 3) i (q4 σ s).1) (b + 4) i (bI (eC σ (q4 σ s).2))) (b + 5) i (q8 σ s).1
theorem c_case (K : BK h b) (T : TC h σ) (Z : TS h s) (hs : s.1 ≤ cn σ 63) (hi : i < 4) (hN : 100 < N) : ∃ h', f_X8_readCase h N 15 b (nI i) = some h' ∧ TC h' σ ∧ TS h' (q8 σ s).2 ∧ (q8 σ s).2.1 ≤ cn σ 63 ∧ FV (CAI (ai h) b i σ s) h h' := by
  obtain ⟨hb1, hb2⟩ := K.2.2
  have n0 := c_next T Z hs
  have g6 : xgr h b 11 6 = some (b + 1) := K.gr (d := 0) (by omega)
  have w0 : ∀ x, xis h (b + 1) (nI i) x = some (sai h (b + 1) i x) := fun x => K.is (d := 0) (x := x) (by omega) hi
  have x100 : nx σ s.1 = 100 ↔ tb σ s.1 = nI 100 := nx_eq T (c := 100) (by omega)
  have x103 : nx σ s.1 = 103 ↔ tb σ s.1 = nI 103 := nx_eq T (c := 103) (by omega)
  have x115 : nx σ s.1 = 115 ↔ tb σ s.1 = nI 115 := nx_eq T (c := 115) (by omega)
  have T1 := T.sai (r := b + 1) (k := i) (x := nI (kdS σ s)) (by omega) (by omega)
  have V1 : FV (up2 (ai h) (b + 1) i (nI (kdS σ s))) h (sai h (b + 1) i (nI (kdS σ s))) := (FV.of FW.refl).w
  have K1 := K.fv V1
  have Z1 : TS (sai h (b + 1) i (nI (kdS σ s))) s := Z
  have hk8 : 8 + kdS σ s < 16 := by
    unfold kdS
    split
    · omega
    · split
      · omega
      · split <;> omega
  obtain ⟨h2, r2, Z2, l2, F2⟩ := c_word (N := N) (i := 8 + kdS σ s) hk8 T1 Z1 hs hN
  have V2 := V1.f F2
  have K2 := K.fv V2
  have T2 := T1.fw F2
  have fin : ∀ h4, TC h4 σ → TS h4 (q4 σ s).2 → (q4 σ s).2.1 ≤ cn σ 63 → FV (up2 (up2 (up2 (ai h) (b + 1) i (nI (kdS σ s))) (b + 2) i (q2 σ s).1) (b + 3) i (q4 σ s).1) h h4 → ∃ h', f_X8_readCase_b142 N h4 15 b (nI i) = some h' ∧ TC h' σ ∧ TS h' (q8 σ s).2 ∧ (q8 σ s).2.1 ≤ cn σ 63 ∧ FV (CAI (ai h) b i σ s) h h' := by
    intro h4 T4 Z4 l4 V4
    obtain ⟨h5, r5, T5, Z5, l5, V5⟩ := c_cmp (N := N) (K.fv V4) T4 Z4 l4 hi hN
    refine ⟨h5, r5, T5, Z5, l5, ?_⟩
    have := V4.trans V5
    rw [V4.1.2.2.2.2] at this
    exact this
  by_cases k3 : kdS σ s = 3
  · have t1 : ¬ tb σ s.1 = nI 100 := fun z => by unfold kdS at k3; rw [if_pos z] at k3; omega
    have t2 : ¬ tb σ s.1 = nI 103 := fun z => by unfold kdS at k3; rw [if_neg t1, if_pos z] at k3; omega
    have t3 : ¬ tb σ s.1 = nI 115 := fun z => by unfold kdS at k3; rw [if_neg t1, if_neg t2, if_pos z] at k3; omega
    obtain ⟨h3, r3, Z3, l3, F3⟩ := c_num (N := N) (m := 2) (by omega) T2 Z2 l2 hN
    have V3 := V2.f F3
    have K3 := K.fv V3
    have T3 := (T2.fw F3).sai (r := b + 2) (k := i) (x := (q2 σ s).1) (by omega) (by omega)
    have V3' := V3.w (r := b + 2) (k := i) (x := (q2 σ s).1)
    have K3' := K.fv V3'
    have w2 : xis h3 (b + 2) (nI i) (q2 σ s).1 = some (sai h3 (b + 2) i (q2 σ s).1) := K3.is (d := 1) (x := (q2 σ s).1) (by omega) hi
    have w3 : xis (sai h3 (b + 2) i (q2 σ s).1) (b + 3) (nI i) (q2 σ s).1 = some (sai (sai h3 (b + 2) i (q2 σ s).1) (b + 3) i (q2 σ s).1) := K3'.is (d := 2) (x := (q2 σ s).1) (by omega) hi
    have e4 : q4 σ s = q2 σ s := if_pos k3
    have ra : xia (sai h3 (b + 2) i (q2 σ s).1) (b + 2) (nI i) = some (q2 σ s).1 := xia_of K3'.1.2.2.1 (show ln (sai h3 (b + 2) i (q2 σ s).1) (b + 2) = 4 from (K3'.2.1 1 (by omega)).1) hi (by decide) (by rw [ai_sai, if_pos ⟨rfl, rfl⟩])
    obtain ⟨h5, r5, T5, Z5, l5, V5⟩ := fin (sai (sai h3 (b + 2) i (q2 σ s).1) (b + 3) i (q2 σ s).1) (T3.sai (by omega) (by omega)) (by rw [e4]; exact Z3) (by rw [e4]; exact l3) (by rw [e4]; exact V3'.w)
    refine ⟨h5, ?_, T5, Z5, l5, V5⟩
    rw [k3] at r2 r3
    have r3' : f_X8_number h2 N 15 2 = some ((q2 σ s).1, h3) := by rw [q2, q1, k3]; exact r3
    unfold f_X8_readCase
    rw [if_pos T.1.1, n0, obs, if_neg (fun z => t1 (x100.mp z)), if_neg (fun z => t2 (x103.mp z)), if_neg (fun z => t3 (x115.mp z)), g6, obs, show (3 : Int32) = nI 3 by decide, w0, obs, show (9100 : Nat) + 11 = 9100 + (8 + 3) by omega, r2, obs, show xgr h2 b 11 7 = some (b + 2) from K2.gr (d := 1) (by omega), obs, r3', obs]
    show (xis h3 (b + 2) (nI i) (q2 σ s).1).bind _ = _
    rw [w2, obs, show xgr (sai h3 (b + 2) i (q2 σ s).1) b 11 8 = some (b + 3) from K3'.gr (d := 2) (by omega), obs, show xgr (sai h3 (b + 2) i (q2 σ s).1) b 11 7 = some (b + 2) from K3'.gr (d := 1) (by omega), obs, ra, obs, w3, obs]
    exact r5
  · obtain ⟨h4, r4, T4, Z4, l4, V4⟩ := c_span (N := N) K2 T2 Z2 l2 hi hN
    have e4 : q4 σ s = spS σ (q1 σ s) := if_neg k3
    have V4' := V2.trans V4
    rw [V2.1.2.2.2.2] at V4'
    obtain ⟨h5, r5, T5, Z5, l5, V5⟩ := fin h4 T4 (by rw [e4]; exact Z4) (by rw [e4]; exact l4) (by rw [e4]; exact V4')
    refine ⟨h5, ?_, T5, Z5, l5, V5⟩
    unfold f_X8_readCase
    rw [if_pos T.1.1, n0, obs]
    by_cases t1 : tb σ s.1 = nI 100
    · have k : kdS σ s = 1 := by unfold kdS; rw [if_pos t1]
      rw [k] at r2
      rw [if_pos (x100.mpr t1), g6, obs, show (1 : Int32) = nI 1 by decide, w0, obs, show (9100 : Nat) + 9 = 9100 + (8 + 1) by omega, r2, obs, r4, obs]
      exact r5
    · rw [if_neg (fun z => t1 (x100.mp z))]
      by_cases t2 : tb σ s.1 = nI 103
      · have k : kdS σ s = 2 := by unfold kdS; rw [if_neg t1, if_pos t2]
        rw [k] at r2
        rw [if_pos (x103.mpr t2), g6, obs, show (2 : Int32) = nI 2 by decide, w0, obs, show (9100 : Nat) + 10 = 9100 + (8 + 2) by omega, r2, obs, r4, obs]
        exact r5
      · rw [if_neg (fun z => t2 (x103.mp z))]
        by_cases t3 : tb σ s.1 = nI 115
        · have k : kdS σ s = 0 := by unfold kdS; rw [if_neg t1, if_neg t2, if_pos t3]
          rw [k] at r2
          rw [if_pos (x115.mpr t3), g6, obs, show (0 : Int32) = nI 0 by decide, w0, obs, show (9100 : Nat) + 8 = 9100 + (8 + 0) by omega, r2, obs, r4, obs]
          exact r5
        · exfalso
          apply k3
          unfold kdS
          rw [if_neg t1, if_neg t2, if_neg t3]
end
