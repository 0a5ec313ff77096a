/-! ===== the class reads the tape ===== -/
section
variable {L N : Nat} {xs : Nat → Int32} {h h' h0 h1 h2 : AH} {σ σ' y : SG} {tr : Nat → Nat} {u n b t c : Nat} {s : Nat × Bool}
def isRateT (σ : SG) : Bool := decide (tb σ 0 = nI 114)
def accA (σ : SG) : Bool := if isRateT σ = true then (!(rn4 σ (0, false)).2.2 && decide (cn σ 63 ≤ (rn4 σ (0, false)).2.1)) else (gP σ (0, false)).2.1
def posA (σ : SG) : Nat := if isRateT σ = true then (rn4 σ (0, false)).2.1 else (gP σ (0, false)).2.2
def BV (h : AH) (b : Nat) (σ : SG) : Prop := fi h b 0 = bI (isRateT σ) ∧ (isRateT σ = true → fi h b 1 = (rn1 σ (0, false)).1 ∧ fi h b 2 = (rn2 σ (0, false)).1 ∧ fi h b 3 = (rn3 σ (0, false)).1 ∧ fi h b 4 = (rn4 σ (0, false)).1 ∧ fi h b 5 = 1 ∧ ai h (b + 1) 0 = 0 ∧ ai h (b + 2) 0 = (rA σ (0, false)).1 ∧ ai h (b + 3) 0 = (rB σ (0, false)).1) ∧ (isRateT σ = false → fi h b 1 = (pyn σ (0, false)).1 ∧ fi h b 5 = nI (gP σ (0, false)).1 ∧ ∀ j, j < (gP σ (0, false)).1 → col h b σ j (sq σ j (py3 σ (0, false))))
def FRN (b : Nat) (h h' : AH) : Prop := (∀ r, r ≠ 15 → (r < b ∨ b + 5 < r) → EQR h h' r) ∧ (kd h' 15 = kd h 15 ∧ ln h' 15 = ln h 15 ∧ fr h' 15 = fr h 15 ∧ ai h' 15 = ai h 15 ∧ ar h' 15 = ar h 15) ∧ ∀ k, k ≠ 2 → k ≠ 3 → fi h' 15 k = fi h 15 k
theorem FRN.rb (F : FRN b h h1) (G : FRB b h1 h2) (hb : 1000 ≤ b) : FRN b h h2 := by
  obtain ⟨f1, ⟨f2, f3, f4, f5, f6⟩, f7⟩ := F
  obtain ⟨⟨g1, g2, g3, g4⟩, g5, g6⟩ := G
  refine ⟨fun r h1 h2 => (f1 r h1 h2).trans ⟨by rw [g1], by rw [g2], funext (fun k => g6 r k (by omega) (by omega)), by rw [g3], g5 r (by omega), by rw [g4]⟩, ⟨by rw [g1]; exact f2, by rw [g2]; exact f3, by rw [g3]; exact f4, by rw [g5 15 (by omega)]; exact f5, by rw [g4]; exact f6⟩, fun k h1 h2 => ?_⟩
  rw [g6 15 k (by omega) (by omega)]; exact f7 k h1 h2
theorem FRN.tc (F : FRN b h h') (T : TC h σ) (hb : 1000 ≤ b ∧ b + 5 < 9000) : TC h' σ := by
  obtain ⟨f1, ⟨f2, f3, f4, f5, f6⟩, f7⟩ := F
  obtain ⟨⟨t1, t2, t3, t4, t5⟩, t6, t7, t8, t9⟩ := T
  have e33 := f1 33 (by omega) (by omega)
  refine ⟨⟨by rw [f2]; exact t1, by rw [f4]; exact t2, by rw [e33.1]; exact t3, by rw [e33.2.1]; exact t4, by rw [f7 1 (by omega) (by omega)]; exact t5⟩, fun i hi => by rw [e33.2.2.2.2.1]; exact t6 i hi, t7, t8, fun i hi => ?_⟩
  have e1 := f1 (9100 + i) (by omega) (by omega)
  have e2 := f1 (9120 + i) (by omega) (by omega)
  rw [e1.1, e2.1, e2.2.1, e2.2.2.2.2.1]
  exact t9 i hi
theorem CS.tc (C : CS h σ tr u) (W : CT σ) (X : TX σ) : TC h σ := by
  obtain ⟨⟨k1, k2, k3, k4⟩, ⟨s1, s2, s3, s4, s5⟩, d, -, -, -, -, tp, -⟩ := C
  exact ⟨⟨k2 (15, 10) (by decide), k1 (15, 0, 33) (by decide), k2 (33, 22) (by decide), k3 (33, 100) (by decide), by rw [← X.1]; exact d.1 (15, 1, 63) (by decide)⟩, tp, X.2.1, X.2.2.1, s3⟩
theorem tfree_eq (T : TU h u) (hu : u < 600) : tfree h = 1000 + 8 * u := by
  unfold tfree
  have e : (List.range 600).find? (fun i => kd h (1000 + 8 * i) == 0) = some u := by
    rw [List.find?_range_eq_some]
    refine ⟨?_, by simpa using hu, fun j hj => ?_⟩
    · have := T.1 u (Nat.le_refl _) hu 0 (by omega)
      rw [Nat.add_zero] at this
      simp [this]
    · have := T.2 j hj
      simp [this]
  rw [e]
  rfl
def iniH (h : AH) (b : Nat) : AH := sfr (mkc (sfr (mkc (sfr (mkc (sfr (mkc (sfr (mkc (sfi (sfi h b 0 0) b 5 0) (b + 1) 20 4) b 6 (some (b + 1))) (b + 2) 20 4) b 7 (some (b + 2))) (b + 3) 20 4) b 8 (some (b + 3))) (b + 4) 21 4) b 9 (some (b + 4))) (b + 5) 20 4) b 10 (some (b + 5))
theorem kd_mk {r c m a : Nat} : kd (mkc h r c m) a = if a = r then c else kd h a := rfl
theorem iniH_kd {a : Nat} : kd (iniH h b) a = if a = b + 5 then 20 else if a = b + 4 then 21 else if a = b + 3 then 20 else if a = b + 2 then 20 else if a = b + 1 then 20 else kd h a := rfl
theorem iniH_ln {a : Nat} : ln (iniH h b) a = if a = b + 5 then 4 else if a = b + 4 then 4 else if a = b + 3 then 4 else if a = b + 2 then 4 else if a = b + 1 then 4 else ln h a := rfl
theorem ini_ok (kb : kd h b = 12) (kz : ∀ d, 1 ≤ d → d < 6 → kd h (b + d) = 0) : f_X10_init h b = some (iniH h b) := by
  have n4 : (4 : Int32) = nI 4 := by decide
  have e0 : xpz h b 11 0 0 = some (sfi h b 0 0) := by unfold xpz; rw [if_pos ⟨kb, Or.inl rfl⟩]
  have kb0 : kd h b ≠ 0 := by rw [kb]; decide
  unfold f_X10_init
  rw [if_pos kb, e0, obs, xpi_ok (show kd (sfi h b 0 0) b = 11 + 1 from kb), obs, gl2 (show kd (sfi (sfi h b 0 0) b 5 0) b ≠ 0 from kb0) (show kd (sfi (sfi h b 0 0) b 5 0) b ≠ 0 from kb0), obs, n4]
  have ne : ∀ d, 1 ≤ d → b ≠ b + d := fun d hd => by omega
  rw [xna_ok (show kd (sfi (sfi h b 0 0) b 5 0) (b + 1) = 0 from kz 1 (by omega) (by omega)) (by omega), obs]
  obtain ⟨g1, eg1⟩ : ∃ g, g = mkc (sfi (sfi h b 0 0) b 5 0) (b + 1) 20 4 := ⟨_, rfl⟩
  have a1 : kd g1 b = 12 := by rw [eg1, kd_mk, if_neg (ne 1 (by omega))]; exact kb
  have a2 : ∀ d, 2 ≤ d → d < 6 → kd g1 (b + d) = 0 := fun d h1 h2 => by rw [eg1, kd_mk, if_neg (by omega)]; exact kz d (by omega) h2
  have a3 : kd g1 (b + 1) ≠ 0 := by rw [eg1, kd_mk, if_pos rfl]; decide
  have c1 := xpr_ok (k := 6) (show kd g1 b = 11 + 1 from a1) a3
  rw [← eg1, c1, obs, gl2 (show kd (sfr g1 b 6 (some (b + 1))) b ≠ 0 by show kd g1 b ≠ 0; rw [a1]; decide) (show kd (sfr g1 b 6 (some (b + 1))) b ≠ 0 by show kd g1 b ≠ 0; rw [a1]; decide), obs, xna_ok (show kd (sfr g1 b 6 (some (b + 1))) (b + 2) = 0 from a2 2 (by omega) (by omega)) (by omega), obs]
  obtain ⟨g2, eg2⟩ : ∃ g, g = mkc (sfr g1 b 6 (some (b + 1))) (b + 2) 20 4 := ⟨_, rfl⟩
  have b1 : kd g2 b = 12 := by rw [eg2, kd_mk, if_neg (ne 2 (by omega))]; exact a1
  have b2 : ∀ d, 3 ≤ d → d < 6 → kd g2 (b + d) = 0 := fun d h1 h2 => by rw [eg2, kd_mk, if_neg (by omega)]; exact a2 d (by omega) h2
  have b3 : kd g2 (b + 2) ≠ 0 := by rw [eg2, kd_mk, if_pos rfl]; decide
  have c2 := xpr_ok (k := 7) (show kd g2 b = 11 + 1 from b1) b3
  rw [← eg2, c2, obs, gl2 (show kd (sfr g2 b 7 (some (b + 2))) b ≠ 0 by show kd g2 b ≠ 0; rw [b1]; decide) (show kd (sfr g2 b 7 (some (b + 2))) b ≠ 0 by show kd g2 b ≠ 0; rw [b1]; decide), obs, xna_ok (show kd (sfr g2 b 7 (some (b + 2))) (b + 3) = 0 from b2 3 (by omega) (by omega)) (by omega), obs]
  obtain ⟨g3, eg3⟩ : ∃ g, g = mkc (sfr g2 b 7 (some (b + 2))) (b + 3) 20 4 := ⟨_, rfl⟩
  have d1 : kd g3 b = 12 := by rw [eg3, kd_mk, if_neg (ne 3 (by omega))]; exact b1
  have d2 : ∀ d, 4 ≤ d → d < 6 → kd g3 (b + d) = 0 := fun d h1 h2 => by rw [eg3, kd_mk, if_neg (by omega)]; exact b2 d (by omega) h2
  have d3 : kd g3 (b + 3) ≠ 0 := by rw [eg3, kd_mk, if_pos rfl]; decide
  have c3 := xpr_ok (k := 8) (show kd g3 b = 11 + 1 from d1) d3
  rw [← eg3, c3, obs, gl2 (show kd (sfr g3 b 8 (some (b + 3))) b ≠ 0 by show kd g3 b ≠ 0; rw [d1]; decide) (show kd (sfr g3 b 8 (some (b + 3))) b ≠ 0 by show kd g3 b ≠ 0; rw [d1]; decide), obs, xna_ok (show kd (sfr g3 b 8 (some (b + 3))) (b + 4) = 0 from d2 4 (by omega) (by omega)) (by omega), obs]
  obtain ⟨g4, eg4⟩ : ∃ g, g = mkc (sfr g3 b 8 (some (b + 3))) (b + 4) 21 4 := ⟨_, rfl⟩
  have f1 : kd g4 b = 12 := by rw [eg4, kd_mk, if_neg (ne 4 (by omega))]; exact d1
  have f2 : kd g4 (b + 5) = 0 := by rw [eg4, kd_mk, if_neg (by omega)]; exact d2 5 (by omega) (by omega)
  have f3 : kd g4 (b + 4) ≠ 0 := by rw [eg4, kd_mk, if_pos rfl]; decide
  have c4 := xpr_ok (k := 9) (show kd g4 b = 11 + 1 from f1) f3
  rw [← eg4, c4, obs, gl2 (show kd (sfr g4 b 9 (some (b + 4))) b ≠ 0 by show kd g4 b ≠ 0; rw [f1]; decide) (show kd (sfr g4 b 9 (some (b + 4))) b ≠ 0 by show kd g4 b ≠ 0; rw [f1]; decide), obs, xna_ok (show kd (sfr g4 b 9 (some (b + 4))) (b + 5) = 0 from f2) (by omega), obs]
  obtain ⟨g5, eg5⟩ : ∃ g, g = mkc (sfr g4 b 9 (some (b + 4))) (b + 5) 20 4 := ⟨_, rfl⟩
  have i1 : kd g5 b = 12 := by rw [eg5, kd_mk, if_neg (ne 5 (by omega))]; exact f1
  have i3 : kd g5 (b + 5) ≠ 0 := by rw [eg5, kd_mk, if_pos rfl]; decide
  have c5 := xpr_ok (k := 10) (show kd g5 b = 11 + 1 from i1) i3
  rw [← eg5, c5, obs, eg5, eg4, eg3, eg2, eg1]
  rfl
theorem iniH_q {r : Nat} (hr : r < b ∨ b + 5 < r) : EQR h (iniH h b) r := by
  have n0 : r ≠ b := by omega
  have n1 : r ≠ b + 1 := by omega
  have n2 : r ≠ b + 2 := by omega
  have n3 : r ≠ b + 3 := by omega
  have n4 : r ≠ b + 4 := by omega
  have n5 : r ≠ b + 5 := by omega
  unfold iniH
  exact (((((((((((EQR.sfi n0).trans (EQR.sfi n0)).trans (EQR.mkc n1)).trans (EQR.sfr n0)).trans (EQR.mkc n2)).trans (EQR.sfr n0)).trans (EQR.mkc n3)).trans (EQR.sfr n0)).trans (EQR.mkc n4)).trans (EQR.sfr n0)).trans (EQR.mkc n5)).trans (EQR.sfr n0)
theorem iniH_bk (kb : kd h b = 12) (hb : 1000 ≤ b ∧ b + 5 < 9000) : BK (iniH h b) b := by
  refine ⟨⟨?_, ?_, ?_, ?_, ?_, ?_⟩, fun d hd => ⟨?_, ?_⟩, hb⟩
  · rw [iniH_kd, if_neg (by omega), if_neg (by omega), if_neg (by omega), if_neg (by omega), if_neg (by omega)]; exact kb
  · rw [iniH_kd, if_neg (by omega), if_neg (by omega), if_neg (by omega), if_neg (by omega), if_pos rfl]
  · rw [iniH_kd, if_neg (by omega), if_neg (by omega), if_neg (by omega), if_pos rfl]
  · rw [iniH_kd, if_neg (by omega), if_neg (by omega), if_pos rfl]
  · rw [iniH_kd, if_neg (by omega), if_pos rfl]
  · rw [iniH_kd, if_pos rfl]
  · have hd5 : d = 0 ∨ d = 1 ∨ d = 2 ∨ d = 3 ∨ d = 4 := by omega
    rw [iniH_ln]
    rcases hd5 with rfl | rfl | rfl | rfl | rfl
    · rw [if_neg (by omega), if_neg (by omega), if_neg (by omega), if_neg (by omega), if_pos rfl]
    · rw [if_neg (by omega), if_neg (by omega), if_neg (by omega), if_pos rfl]
    · rw [if_neg (by omega), if_neg (by omega), if_pos rfl]
    · rw [if_neg (by omega), if_pos rfl]
    · rw [if_pos rfl]
  · have hd5 : d = 0 ∨ d = 1 ∨ d = 2 ∨ d = 3 ∨ d = 4 := by omega
    have mk : ∀ (z : AH) (r c m : Nat), b ≠ r → fr (mkc z r c m) b = fr z b := fun z r c m e => if_neg e
    unfold iniH
    rcases hd5 with rfl | rfl | rfl | rfl | rfl
    · rw [fr_sfr, if_neg (by omega), mk _ _ _ _ (by omega), fr_sfr, if_neg (by omega), mk _ _ _ _ (by omega), fr_sfr, if_neg (by omega), mk _ _ _ _ (by omega), fr_sfr, if_neg (by omega), mk _ _ _ _ (by omega), fr_sfr, if_pos ⟨rfl, rfl⟩]
    · rw [fr_sfr, if_neg (by omega), mk _ _ _ _ (by omega), fr_sfr, if_neg (by omega), mk _ _ _ _ (by omega), fr_sfr, if_neg (by omega), mk _ _ _ _ (by omega), fr_sfr, if_pos ⟨rfl, rfl⟩]
    · rw [fr_sfr, if_neg (by omega), mk _ _ _ _ (by omega), fr_sfr, if_neg (by omega), mk _ _ _ _ (by omega), fr_sfr, if_pos ⟨rfl, rfl⟩]
    · rw [fr_sfr, if_neg (by omega), mk _ _ _ _ (by omega), fr_sfr, if_pos ⟨rfl, rfl⟩]
    · rw [fr_sfr, if_pos ⟨rfl, rfl⟩]
theorem iniH_0 : fi (iniH h b) b 0 = 0 := by
  have mk : ∀ (z : AH) (r c m : Nat), b ≠ r → fi (mkc z r c m) b = fi z b := fun z r c m e => if_neg e
  have sf : ∀ (z : AH) (r k : Nat) (x : Option Nat), fi (sfr z r k x) b = fi z b := fun _ _ _ _ => rfl
  unfold iniH
  rw [sf, mk _ _ _ _ (by omega), sf, mk _ _ _ _ (by omega), sf, mk _ _ _ _ (by omega), sf, mk _ _ _ _ (by omega), sf, mk _ _ _ _ (by omega), fi_sfi, if_neg (by omega), fi_sfi, if_pos ⟨rfl, rfl⟩]
theorem c_read (C : CS h σ tr u) (W : CT σ) (X : TX σ) (hu : u < 600) (hN : 1000 < N) : ∃ h1, f_X8_read h N 15 = some (if accA σ = true then some (1000 + 8 * u) else none, h1) ∧ FRN (1000 + 8 * u) h h1 ∧ BK h1 (1000 + 8 * u) ∧ fi h1 15 2 = nI (posA σ) ∧ (accA σ = true → BV h1 (1000 + 8 * u) σ) := by
  have T := C.tc W X
  have tu := C.2.2.2.2.2.2.2.2.1.2.2
  have k15 := T.1.1
  obtain ⟨hA, eA⟩ : ∃ hA, hA = sfi (sfi h 15 2 0) 15 3 0 := ⟨_, rfl⟩
  have ka : kd hA = kd h := by rw [eA]; rfl
  have tf : tfree hA = 1000 + 8 * u := tfree_eq (by unfold TU; rw [ka]; exact tu) hu
  obtain ⟨b, eb⟩ : ∃ b, b = 1000 + 8 * u := ⟨_, rfl⟩
  rw [← eb] at tf ⊢
  have hb : 1000 ≤ b ∧ b + 5 < 9000 := by omega
  have kz : ∀ d, d < 6 → kd hA (b + d) = 0 := fun d hd => by rw [ka, eb]; exact tu.1 u (Nat.le_refl _) hu d hd
  have kzb : kd hA b = 0 := kz 0 (by omega)
  have kc : kd (mkc hA b 12 0) b = 12 := kd_mkc
  have kc2 : ∀ d, 1 ≤ d → d < 6 → kd (mkc hA b 12 0) (b + d) = 0 := fun d h1 h2 => by rw [kd_mkc_ne (by omega)]; exact kz d h2
  have ini := ini_ok kc kc2
  have KI : BK (iniH (mkc hA b 12 0) b) b := iniH_bk kc hb
  have qA : ∀ r, r ≠ 15 → EQR h hA r := fun r hr => by rw [eA]; exact (EQR.sfi hr).trans (EQR.sfi hr)
  have qI : ∀ r, r < b ∨ b + 5 < r → EQR hA (iniH (mkc hA b 12 0) b) r := fun r hr => (EQR.mkc (by omega)).trans (iniH_q hr)
  have q15 := qI 15 (by omega)
  have FI : FRN b h (iniH (mkc hA b 12 0) b) := by
    refine ⟨fun r h1 h2 => (qA r h1).trans (qI r h2), ⟨?_, ?_, ?_, ?_, ?_⟩, fun k h1 h2 => ?_⟩
    · rw [q15.1, eA]; rfl
    · rw [q15.2.1, eA]; rfl
    · rw [q15.2.2.2.1, eA]; rfl
    · rw [q15.2.2.2.2.1, eA]; rfl
    · rw [q15.2.2.2.2.2, eA]; rfl
    · rw [q15.2.2.1, eA, fi_sfi, if_neg (by omega), fi_sfi, if_neg (by omega)]
  have TI := FI.tc T hb
  have ZI : TS (iniH (mkc hA b 12 0) b) (0, false) := by
    refine ⟨?_, ?_⟩
    · rw [q15.2.2.1, eA, fi_sfi, if_neg (by omega), fi_sfi, if_pos ⟨rfl, rfl⟩]; rfl
    · rw [q15.2.2.1, eA, fi_sfi, if_pos ⟨rfl, rfl⟩]; rfl
  have z0 : fi (iniH (mkc hA b 12 0) b) b 0 = 0 := iniH_0
  generalize iniH (mkc hA b 12 0) b = hI at ini KI FI TI ZI z0
  have nx0 := c_next TI ZI (Nat.zero_le _)
  have x114 : nx σ 0 = 114 ↔ tb σ 0 = nI 114 := nx_eq TI (c := 114) (by omega)
  have pre : f_X8_read h N 15 = (if nx σ 0 = 114 then (f_X8_readRate hI N 15 b).bind fun q7 => f_X8_read_b40 N q7 15 b else (f_X8_readPay hI N 15 b).bind fun q8 => f_X8_read_b40 N q8 15 b) := by
    have p1 : xpi h 15 9 2 0 = some (sfi h 15 2 0) := xpi_ok k15
    have p2 : xpz (sfi h 15 2 0) 15 9 3 0 = some hA := by rw [eA]; unfold xpz; rw [if_pos ⟨k15, Or.inl rfl⟩]
    have ga : kd hA 15 ≠ 0 := by rw [ka, k15]; decide
    unfold f_X8_read
    rw [if_pos k15, p1, obs, p2, obs, gl1 ga, obs, tf, xnw_ok kzb, obs, gl2 (show kd (mkc hA b (11 + 1) 0) 15 ≠ 0 by rw [kd_mkc_ne (by omega)]; exact ga) (show kd (mkc hA b (11 + 1) 0) b ≠ 0 by rw [kd_mkc]; decide), obs, ini, obs, nx0, obs]
  have b40 : ∀ h1, FRN b h h1 → fi h1 15 2 = nI (posA σ) → posA σ ≤ cn σ 63 → (accA σ = true → fi h1 15 3 = 0 ∧ cn σ 63 ≤ posA σ) → (accA σ = false → ¬ fi h1 15 3 = 0 ∨ posA σ < cn σ 63) → f_X8_read_b40 N h1 15 b = some (if accA σ = true then some b else none, h1) := by
    intro h1 F e2 lp c1 c2
    have k1 : kd h1 15 = 9 + 1 := by rw [F.2.1.1]; exact k15
    have l1 : fi h1 15 1 = nI (cn σ 63) := by rw [F.2.2 1 (by omega) (by omega)]; exact T.1.2.2.2.2
    have hl := T.2.2.1
    unfold f_X8_read_b40 f_X8_read_b58
    rw [xgi_ok k1, obs, xgi_ok k1, e2, obs, xgi_ok k1, l1, obs]
    rcases ea : accA σ
    · rw [if_neg (show ¬ (false = true) by decide)]
      by_cases q : fi h1 15 3 = 0
      · rw [if_pos q]
        rcases c2 ea with z | z
        · exact absurd q z
        · rw [if_neg (by rw [nI_leI (by omega) (by omega)]; omega)]
      · rw [if_neg q]
    · obtain ⟨z1, z2⟩ := c1 ea
      rw [if_pos z1, if_pos (by rw [nI_leI (by omega) (by omega)]; exact z2), if_pos rfl]
  rcases er : isRateT σ
  · have n114 : ¬ nx σ 0 = 114 := fun z => by
      have := decide_eq_true (x114.mp z)
      rw [show decide (tb σ 0 = nI 114) = isRateT σ from rfl, er] at this
      cases this
    have ep : posA σ = (gP σ (0, false)).2.2 := by unfold posA; rw [er, if_neg (by decide)]
    have ea : accA σ = (gP σ (0, false)).2.1 := by unfold accA; rw [er, if_neg (by decide)]
    obtain ⟨h1, r1, R1, f0, a1, a2, a3⟩ := c_pay (N := N) KI TI ZI (Nat.zero_le _) hN
    have F1 := FI.rb R1 (by omega)
    have lp : posA σ ≤ cn σ 63 := by
      rw [ep]
      unfold gP
      have l3 : (py3 σ (0, false)).1 ≤ cn σ 63 := W_le (by omega) (N_le (W_le (by omega) (Nat.zero_le _)))
      by_cases q : (py3 σ (0, false)).2 = true
      · rw [if_pos q]; exact l3
      · rw [if_neg q]; exact gL_le 3 _ l3
    rw [← ep, ← ea] at a2
    rw [← ep, ← ea] at a3
    rw [← ep] at a1
    refine ⟨h1, ?_, F1, ?_, a1, fun z => ⟨?_, fun z2 => ?_, fun _ => ?_⟩⟩
    · rw [pre, if_neg n114, r1, obs]
      exact b40 h1 F1 a1 lp (fun z => ⟨(a2 z).1, (a2 z).2.1⟩) a3
    · obtain ⟨⟨g1, g2, g3, g4⟩, -⟩ := R1
      unfold BK at KI ⊢
      rw [g1, g2, g3]; exact KI
    · rw [f0, z0, er]; rfl
    · rw [er] at z2; cases z2
    · exact ⟨(a2 z).2.2.1, (a2 z).2.2.2.1, (a2 z).2.2.2.2⟩
  · have y114 : nx σ 0 = 114 := x114.mpr (of_decide_eq_true er)
    have ep : posA σ = (rn4 σ (0, false)).2.1 := by unfold posA; rw [er, if_pos rfl]
    have ea : accA σ = (!(rn4 σ (0, false)).2.2 && decide (cn σ 63 ≤ (rn4 σ (0, false)).2.1)) := by unfold accA; rw [er, if_pos rfl]
    obtain ⟨h1, r1, Z1, V1⟩ := c_rate (N := N) KI TI ZI (Nat.zero_le _) (by omega)
    have R1 : FRB b hI h1 := V1.rb (fun r hr => by rw [up2_row (by omega), up2_row (by omega), up2_row (by omega)])
    have F1 := FI.rb R1 (by omega)
    have a1 : fi h1 15 2 = nI (posA σ) := by rw [ep]; exact Z1.1
    have lp : posA σ ≤ cn σ 63 := by
      rw [ep]
      exact N_le (W_le (by omega) (N_le (W_le (by omega) (N_le (W_le (by omega) (N_le (W_le (by omega) (N_le (W_le (by omega) (N_le (W_le (by omega) (Nat.zero_le _))))))))))))
    refine ⟨h1, ?_, F1, V1.bk KI, a1, fun z => ⟨?_, fun _ => ?_, fun z2 => ?_⟩⟩
    · rw [pre, if_pos y114, r1, obs]
      refine b40 h1 F1 a1 lp (fun z => ?_) (fun z => ?_)
      · rw [ea] at z
        simp at z
        exact ⟨by rw [Z1.2, z.1]; rfl, by rw [ep]; exact z.2⟩
      · rw [ea] at z
        rw [Z1.2, ep]
        rcases e : (rn4 σ (0, false)).2.2
        · right
          rw [e] at z
          simp at z
          exact z
        · left; decide
    · rw [V1.2.2.1, er]; rfl
    · rw [V1.2.2.1, V1.2.1]
      refine ⟨rfl, rfl, rfl, rfl, rfl, ?_, ?_, ?_⟩
      · rw [up2_ite, if_pos ⟨rfl, rfl⟩]
      · rw [up2_ite, if_neg (by omega), up2_ite, if_neg (by omega), up2_ite, if_pos ⟨rfl, rfl⟩]
      · rw [up2_ite, if_neg (by omega), up2_ite, if_pos ⟨rfl, rfl⟩]
    · rw [er] at z2; cases z2
end
