/-! ===== the start: the reference ===== -/
section
variable {h g : AH} {φ : Nat → Int32} {row : Nat → Int32} {P : Option AH → Prop} {F : AH → Option AH}
def ROW5 : Nat → Int32 := (va_up (va_up (va_up (va_up (fun _ => 0) 0 (40)) 1 (500)) 2 (20)) 3 (0))
def ROW6 : Nat → Int32 := (va_up (va_up (va_up (va_up (fun _ => 0) 0 (198)) 1 (9999)) 2 (300)) 3 (100))
def ROW25 : Nat → Int32 := (va_up (va_up (va_up (va_up (fun _ => 0) 0 (100)) 1 (80)) 2 (120)) 3 (60))
def ROW66 : Nat → Int32 := (va_up (va_up (va_up (fun _ => 0) 0 (-1)) 1 (-1)) 2 (-1))
def ROW71 : Nat → Int32 := (va_up (va_up (va_up (va_up (va_up (va_up (va_up (va_up (va_up (va_up (va_up (va_up (va_up (va_up (va_up (va_up (va_up (va_up (va_up (va_up (va_up (va_up (va_up (va_up (va_up (va_up (va_up (va_up (va_up (va_up (va_up (va_up (va_up (va_up (va_up (va_up (va_up (va_up (va_up (va_up (va_up (va_up (va_up (va_up (va_up (va_up (va_up (va_up (va_up (va_up (va_up (va_up (va_up (va_up (va_up (va_up (va_up (va_up (va_up (va_up (va_up (va_up (va_up (va_up (va_up (va_up (va_up (va_up (va_up (va_up (va_up (va_up (va_up (va_up (va_up (va_up (va_up (va_up (va_up (fun _ => 0) 0 (112)) 1 (97)) 2 (121)) 3 (32)) 4 (0)) 5 (32)) 6 (105)) 7 (102)) 8 (32)) 9 (0)) 10 (114)) 11 (97)) 12 (116)) 13 (101)) 14 (32)) 15 (0)) 16 (32)) 17 (112)) 18 (101)) 19 (114)) 20 (32)) 21 (0)) 22 (32)) 23 (98)) 24 (101)) 25 (108)) 26 (111)) 27 (119)) 28 (32)) 29 (0)) 30 (32)) 31 (111)) 32 (102)) 33 (32)) 34 (115)) 35 (117)) 36 (109)) 37 (32)) 38 (0)) 39 (32)) 40 (116)) 41 (111)) 42 (32)) 43 (0)) 44 (32)) 45 (109)) 46 (97)) 47 (120)) 48 (32)) 49 (0)) 50 (115)) 51 (117)) 52 (109)) 53 (32)) 54 (0)) 55 (100)) 56 (114)) 57 (121)) 58 (32)) 59 (0)) 60 (103)) 61 (114)) 62 (101)) 63 (101)) 64 (110)) 65 (32)) 66 (0)) 67 (119)) 68 (101)) 69 (101)) 70 (107)) 71 (32)) 72 (0)) 73 (32)) 74 (97)) 75 (110)) 76 (100)) 77 (32)) 78 (0))
def ROW (k : Nat) : Nat → Int32 := if k = 5 then ROW5 else if k = 6 then ROW6 else if k = 25 then ROW25 else if k = 66 then ROW66 else if k = 71 then ROW71 else fun _ => 0
def RP (h g : AH) (m : Nat) (φ : Nat → Int32) : Prop := kd g 100 = 14 ∧ (∀ k, k < m → rlen.getD k 0 ≠ 0 → (fr g 100 k = some (100 + k) ∧ kd g (100 + k) = rkd k ∧ ln g (100 + k) = rlen.getD k 0) ∧ ai g (100 + k) = ROW k) ∧ (∀ r, 100 + m ≤ r → r < 177 → kd g r = 0) ∧ (∀ r, r < 100 ∨ 177 ≤ r → EQR h g r) ∧ fi g 100 = φ
def RQ (h g : AH) (k : Nat) (φ row : Nat → Int32) : Prop := kd g 100 = 14 ∧ (∀ j, j < k → rlen.getD j 0 ≠ 0 → (fr g 100 j = some (100 + j) ∧ kd g (100 + j) = rkd j ∧ ln g (100 + j) = rlen.getD j 0) ∧ ai g (100 + j) = ROW j) ∧ (∀ r, 100 + k < r → r < 177 → kd g r = 0) ∧ (∀ r, r < 100 ∨ 177 ≤ r → EQR h g r) ∧ fi g 100 = φ ∧ kd g (100 + k) = rkd k ∧ ln g (100 + k) = rlen.getD k 0 ∧ ai g (100 + k) = row
theorem RP.sk {k : Nat} (R : RP h g k φ) (hz : rlen.getD k 0 = 0) : RP h g (k + 1) φ := by
  obtain ⟨r1, r2, r3, r4, r5⟩ := R
  refine ⟨r1, fun j hj hz' => ?_, fun r a b => r3 r (by omega) b, r4, r5⟩
  by_cases e : j = k
  · subst e; exact absurd hz hz'
  · exact r2 j (by omega) hz'
theorem RP.mk {k z ty : Nat} {c : Int32} (R : RP h g k φ) (hk : 1 ≤ k ∧ k < 77) (hz : rlen.getD k 0 = z) (hc : c = nI z) (z1 : z ≤ 100000) (ht : rkd k = 20 + ty) (n : ∀ g', RQ h g' k φ (fun _ => 0) → P (F g')) : P ((gl g [100, 100]).bind fun _ => (xna g (100 + k) ty c).bind F) := by
  obtain ⟨r1, r2, r3, r4, r5⟩ := R
  have kz : kd g (100 + k) = 0 := r3 _ (by omega) (by omega)
  have k0 : kd g 100 ≠ 0 := by rw [r1]; decide
  rw [gl2 k0 k0, obs, hc, xna_ok kz z1, obs]
  have Q : ∀ r, r ≠ 100 + k → EQR g (mkc g (100 + k) (20 + ty) z) r := fun r hr => EQR.mkc hr
  refine n _ ⟨?_, fun j hj hz' => ?_, fun r a b => ?_, fun r a => (r4 r a).trans (Q r (by omega)), ?_, ?_, ?_, ?_⟩
  · rw [(Q 100 (by omega)).1]; exact r1
  · have q := Q (100 + j) (by omega)
    rw [(Q 100 (by omega)).2.2.2.1, q.1, q.2.1, q.2.2.2.2.1]; exact r2 j hj hz'
  · rw [(Q r (by omega)).1]; exact r3 r (by omega) b
  · rw [(Q 100 (by omega)).2.2.1]; exact r5
  · rw [kd_mkc, ht]
  · rw [hz]; exact ln_mkc
  · exact if_pos rfl
theorem RQ.wr {k j : Nat} {c v : Int32} (R : RQ h g k φ row) (hk : 1 ≤ k ∧ k < 77) (k20 : rkd k = 20) (hc : c = nI j) (hj : j < rlen.getD k 0) (hl : rlen.getD k 0 < 2 ^ 31) (n : ∀ g', RQ h g' k φ (va_up row j v) → P (F g')) : P ((xis g (100 + k) c v).bind F) := by
  obtain ⟨r1, r2, r3, r4, r5, r6, r7, r8⟩ := R
  rw [hc, xis_of (r6.trans k20) r7 hj hl, obs]
  have Q : ∀ r, r ≠ 100 + k → EQR g (sai g (100 + k) j v) r := fun r hr => EQR.sai hr
  refine n _ ⟨r1, fun i hi hz' => ?_, r3, fun r a => (r4 r a).trans (Q r (by omega)), r5, r6, r7, ?_⟩
  · have q := Q (100 + i) (by omega)
    rw [q.2.2.2.2.1]; exact r2 i hi hz'
  · rw [← r8]
    show up2 (ai g) (100 + k) j v (100 + k) = _
    exact va_up_eq
theorem RQ.ln {k : Nat} (R : RQ h g k φ row) (hk : 1 ≤ k ∧ k < 77) (hr : row = ROW k) (n : ∀ g', RP h g' (k + 1) φ → P (F g')) : P ((xpr g 100 13 k (100 + k)).bind F) := by
  obtain ⟨r1, r2, r3, r4, r5, r6, r7, r8⟩ := R
  have kn : kd g (100 + k) ≠ 0 := by
    rw [r6]; unfold rkd; split <;> decide
  rw [xpr_ok (show kd g 100 = 13 + 1 from r1) kn, obs]
  refine n _ ⟨r1, fun j hj hz' => ?_, fun r a b => r3 r (by omega) b, fun r a => (r4 r a).trans (EQR.sfr (by omega)), r5⟩
  by_cases e : j = k
  · subst e
    exact ⟨⟨by rw [fr_sfr, if_pos ⟨rfl, rfl⟩], r6, r7⟩, r8.trans hr⟩
  · refine ⟨⟨?_, (r2 j (by omega) hz').1.2⟩, (r2 j (by omega) hz').2⟩
    rw [fr_sfr, if_neg (fun z => e z.2)]; exact (r2 j (by omega) hz').1.1
theorem RP.pi {m k : Nat} {v : Int32} (R : RP h g m φ) (n : ∀ g', RP h g' m (va_up φ k v) → P (F g')) : P ((xpi g 100 13 k v).bind F) := by
  obtain ⟨r1, r2, r3, r4, r5⟩ := R
  rw [xpi_ok (show kd g 100 = 13 + 1 from r1), obs]
  refine n _ ⟨r1, r2, r3, fun r a => (r4 r a).trans (EQR.sfi (by omega)), ?_⟩
  rw [← r5]
  show up2 (fi g) 100 k v 100 = _
  exact va_up_eq
def PHI : Nat → Int32 := va_up (va_up (fun _ => 0) 61 1) 73 12
theorem x12_run (R0 : RP h g 1 (fun _ => 0)) : ∃ g', x12p g 0 100 = some g' ∧ RP h g' 77 PHI := by
  show (fun o => ∃ g', o = some g' ∧ RP h g' 77 PHI) (x12p g 0 100)
  generalize hP : (fun o : Option AH => ∃ g', o = some g' ∧ RP h g' 77 PHI) = P
  unfold x12p
  rw [if_pos (show kd g 100 = 13 + 1 from R0.1)]
  refine R0.mk (k := 1) (z := 8) (ty := 0) (by omega) (by decide) (by decide) (by decide) (by decide) (fun g1 R1 => ?_)
  refine R1.ln (k := 1) (by omega) rfl (fun g2 R2 => ?_)
  refine R2.mk (k := 2) (z := 8) (ty := 0) (by omega) (by decide) (by decide) (by decide) (by decide) (fun g3 R3 => ?_)
  refine R3.ln (k := 2) (by omega) rfl (fun g4 R4 => ?_)
  refine R4.mk (k := 3) (z := 8) (ty := 0) (by omega) (by decide) (by decide) (by decide) (by decide) (fun g5 R5 => ?_)
  refine R5.ln (k := 3) (by omega) rfl (fun g6 R6 => ?_)
  refine R6.mk (k := 4) (z := 8) (ty := 0) (by omega) (by decide) (by decide) (by decide) (by decide) (fun g7 R7 => ?_)
  refine R7.ln (k := 4) (by omega) rfl (fun g8 R8 => ?_)
  refine R8.mk (k := 5) (z := 4) (ty := 0) (by omega) (by decide) (by decide) (by decide) (by decide) (fun g9 R9 => ?_)
  refine R9.wr (k := 5) (j := 0) (by omega) (by decide) (by decide) (by decide) (by decide) (fun g10 R10 => ?_)
  refine R10.wr (k := 5) (j := 1) (by omega) (by decide) (by decide) (by decide) (by decide) (fun g11 R11 => ?_)
  refine R11.wr (k := 5) (j := 2) (by omega) (by decide) (by decide) (by decide) (by decide) (fun g12 R12 => ?_)
  refine R12.wr (k := 5) (j := 3) (by omega) (by decide) (by decide) (by decide) (by decide) (fun g13 R13 => ?_)
  refine R13.ln (k := 5) (by omega) rfl (fun g14 R14 => ?_)
  refine R14.mk (k := 6) (z := 4) (ty := 0) (by omega) (by decide) (by decide) (by decide) (by decide) (fun g15 R15 => ?_)
  refine R15.wr (k := 6) (j := 0) (by omega) (by decide) (by decide) (by decide) (by decide) (fun g16 R16 => ?_)
  refine R16.wr (k := 6) (j := 1) (by omega) (by decide) (by decide) (by decide) (by decide) (fun g17 R17 => ?_)
  refine R17.wr (k := 6) (j := 2) (by omega) (by decide) (by decide) (by decide) (by decide) (fun g18 R18 => ?_)
  refine R18.wr (k := 6) (j := 3) (by omega) (by decide) (by decide) (by decide) (by decide) (fun g19 R19 => ?_)
  refine R19.ln (k := 6) (by omega) rfl (fun g20 R20 => ?_)
  have S21 := R20.sk (k := 7) (by decide)
  refine S21.mk (k := 8) (z := 700) (ty := 1) (by omega) (by decide) (by decide) (by decide) (by decide) (fun g22 R22 => ?_)
  refine R22.ln (k := 8) (by omega) rfl (fun g23 R23 => ?_)
  refine R23.mk (k := 9) (z := 700) (ty := 0) (by omega) (by decide) (by decide) (by decide) (by decide) (fun g24 R24 => ?_)
  refine R24.ln (k := 9) (by omega) rfl (fun g25 R25 => ?_)
  unfold x12p_b111
  refine R25.mk (k := 10) (z := 700) (ty := 0) (by omega) (by decide) (by decide) (by decide) (by decide) (fun g26 R26 => ?_)
  refine R26.ln (k := 10) (by omega) rfl (fun g27 R27 => ?_)
  refine R27.mk (k := 11) (z := 3072) (ty := 0) (by omega) (by decide) (by decide) (by decide) (by decide) (fun g28 R28 => ?_)
  refine R28.ln (k := 11) (by omega) rfl (fun g29 R29 => ?_)
  refine R29.mk (k := 12) (z := 1536) (ty := 0) (by omega) (by decide) (by decide) (by decide) (by decide) (fun g30 R30 => ?_)
  refine R30.ln (k := 12) (by omega) rfl (fun g31 R31 => ?_)
  have S32 := R31.sk (k := 13) (by decide)
  refine S32.mk (k := 14) (z := 8) (ty := 1) (by omega) (by decide) (by decide) (by decide) (by decide) (fun g33 R33 => ?_)
  refine R33.ln (k := 14) (by omega) rfl (fun g34 R34 => ?_)
  refine R34.mk (k := 15) (z := 8) (ty := 0) (by omega) (by decide) (by decide) (by decide) (by decide) (fun g35 R35 => ?_)
  refine R35.ln (k := 15) (by omega) rfl (fun g36 R36 => ?_)
  refine R36.mk (k := 16) (z := 8) (ty := 0) (by omega) (by decide) (by decide) (by decide) (by decide) (fun g37 R37 => ?_)
  refine R37.ln (k := 16) (by omega) rfl (fun g38 R38 => ?_)
  refine R38.mk (k := 17) (z := 8) (ty := 0) (by omega) (by decide) (by decide) (by decide) (by decide) (fun g39 R39 => ?_)
  refine R39.ln (k := 17) (by omega) rfl (fun g40 R40 => ?_)
  refine R40.mk (k := 18) (z := 8) (ty := 0) (by omega) (by decide) (by decide) (by decide) (by decide) (fun g41 R41 => ?_)
  refine R41.ln (k := 18) (by omega) rfl (fun g42 R42 => ?_)
  unfold x12p_b178
  refine R42.mk (k := 19) (z := 8) (ty := 0) (by omega) (by decide) (by decide) (by decide) (by decide) (fun g43 R43 => ?_)
  refine R43.ln (k := 19) (by omega) rfl (fun g44 R44 => ?_)
  refine R44.mk (k := 20) (z := 32) (ty := 0) (by omega) (by decide) (by decide) (by decide) (by decide) (fun g45 R45 => ?_)
  refine R45.ln (k := 20) (by omega) rfl (fun g46 R46 => ?_)
  refine R46.mk (k := 21) (z := 32) (ty := 0) (by omega) (by decide) (by decide) (by decide) (by decide) (fun g47 R47 => ?_)
  refine R47.ln (k := 21) (by omega) rfl (fun g48 R48 => ?_)
  refine R48.mk (k := 22) (z := 32) (ty := 0) (by omega) (by decide) (by decide) (by decide) (by decide) (fun g49 R49 => ?_)
  refine R49.ln (k := 22) (by omega) rfl (fun g50 R50 => ?_)
  refine R50.mk (k := 23) (z := 32) (ty := 0) (by omega) (by decide) (by decide) (by decide) (by decide) (fun g51 R51 => ?_)
  refine R51.ln (k := 23) (by omega) rfl (fun g52 R52 => ?_)
  refine R52.mk (k := 24) (z := 32) (ty := 1) (by omega) (by decide) (by decide) (by decide) (by decide) (fun g53 R53 => ?_)
  refine R53.ln (k := 24) (by omega) rfl (fun g54 R54 => ?_)
  refine R54.mk (k := 25) (z := 4) (ty := 0) (by omega) (by decide) (by decide) (by decide) (by decide) (fun g55 R55 => ?_)
  refine R55.wr (k := 25) (j := 0) (by omega) (by decide) (by decide) (by decide) (by decide) (fun g56 R56 => ?_)
  refine R56.wr (k := 25) (j := 1) (by omega) (by decide) (by decide) (by decide) (by decide) (fun g57 R57 => ?_)
  refine R57.wr (k := 25) (j := 2) (by omega) (by decide) (by decide) (by decide) (by decide) (fun g58 R58 => ?_)
  refine R58.wr (k := 25) (j := 3) (by omega) (by decide) (by decide) (by decide) (by decide) (fun g59 R59 => ?_)
  refine R59.ln (k := 25) (by omega) rfl (fun g60 R60 => ?_)
  have S61 := R60.sk (k := 26) (by decide)
  refine S61.mk (k := 27) (z := 24) (ty := 0) (by omega) (by decide) (by decide) (by decide) (by decide) (fun g62 R62 => ?_)
  refine R62.ln (k := 27) (by omega) rfl (fun g63 R63 => ?_)
  unfold x12p_b261
  refine R63.mk (k := 28) (z := 24) (ty := 0) (by omega) (by decide) (by decide) (by decide) (by decide) (fun g64 R64 => ?_)
  refine R64.ln (k := 28) (by omega) rfl (fun g65 R65 => ?_)
  refine R65.mk (k := 29) (z := 24) (ty := 0) (by omega) (by decide) (by decide) (by decide) (by decide) (fun g66 R66 => ?_)
  refine R66.ln (k := 29) (by omega) rfl (fun g67 R67 => ?_)
  refine R67.mk (k := 30) (z := 24) (ty := 0) (by omega) (by decide) (by decide) (by decide) (by decide) (fun g68 R68 => ?_)
  refine R68.ln (k := 30) (by omega) rfl (fun g69 R69 => ?_)
  refine R69.mk (k := 31) (z := 24) (ty := 0) (by omega) (by decide) (by decide) (by decide) (by decide) (fun g70 R70 => ?_)
  refine R70.ln (k := 31) (by omega) rfl (fun g71 R71 => ?_)
  refine R71.mk (k := 32) (z := 24) (ty := 0) (by omega) (by decide) (by decide) (by decide) (by decide) (fun g72 R72 => ?_)
  refine R72.ln (k := 32) (by omega) rfl (fun g73 R73 => ?_)
  refine R73.mk (k := 33) (z := 24) (ty := 0) (by omega) (by decide) (by decide) (by decide) (by decide) (fun g74 R74 => ?_)
  refine R74.ln (k := 33) (by omega) rfl (fun g75 R75 => ?_)
  refine R75.mk (k := 34) (z := 384) (ty := 0) (by omega) (by decide) (by decide) (by decide) (by decide) (fun g76 R76 => ?_)
  refine R76.ln (k := 34) (by omega) rfl (fun g77 R77 => ?_)
  refine R77.mk (k := 35) (z := 4) (ty := 0) (by omega) (by decide) (by decide) (by decide) (by decide) (fun g78 R78 => ?_)
  refine R78.ln (k := 35) (by omega) rfl (fun g79 R79 => ?_)
  unfold x12p_b325
  have S80 := R79.sk (k := 36) (by decide)
  refine S80.mk (k := 37) (z := 60) (ty := 0) (by omega) (by decide) (by decide) (by decide) (by decide) (fun g81 R81 => ?_)
  refine R81.ln (k := 37) (by omega) rfl (fun g82 R82 => ?_)
  refine R82.mk (k := 38) (z := 60) (ty := 0) (by omega) (by decide) (by decide) (by decide) (by decide) (fun g83 R83 => ?_)
  refine R83.ln (k := 38) (by omega) rfl (fun g84 R84 => ?_)
  refine R84.mk (k := 39) (z := 60) (ty := 0) (by omega) (by decide) (by decide) (by decide) (by decide) (fun g85 R85 => ?_)
  refine R85.ln (k := 39) (by omega) rfl (fun g86 R86 => ?_)
  refine R86.mk (k := 40) (z := 60) (ty := 0) (by omega) (by decide) (by decide) (by decide) (by decide) (fun g87 R87 => ?_)
  refine R87.ln (k := 40) (by omega) rfl (fun g88 R88 => ?_)
  have S89 := R88.sk (k := 41) (by decide)
  refine S89.mk (k := 42) (z := 80) (ty := 0) (by omega) (by decide) (by decide) (by decide) (by decide) (fun g90 R90 => ?_)
  refine R90.ln (k := 42) (by omega) rfl (fun g91 R91 => ?_)
  refine R91.mk (k := 43) (z := 80) (ty := 0) (by omega) (by decide) (by decide) (by decide) (by decide) (fun g92 R92 => ?_)
  refine R92.ln (k := 43) (by omega) rfl (fun g93 R93 => ?_)
  refine R93.mk (k := 44) (z := 80) (ty := 0) (by omega) (by decide) (by decide) (by decide) (by decide) (fun g94 R94 => ?_)
  refine R94.ln (k := 44) (by omega) rfl (fun g95 R95 => ?_)
  refine R95.mk (k := 45) (z := 80) (ty := 0) (by omega) (by decide) (by decide) (by decide) (by decide) (fun g96 R96 => ?_)
  refine R96.ln (k := 45) (by omega) rfl (fun g97 R97 => ?_)
  unfold x12p_b389
  have S98 := R97.sk (k := 46) (by decide)
  refine S98.mk (k := 47) (z := 8) (ty := 0) (by omega) (by decide) (by decide) (by decide) (by decide) (fun g99 R99 => ?_)
  refine R99.ln (k := 47) (by omega) rfl (fun g100 R100 => ?_)
  refine R100.mk (k := 48) (z := 8) (ty := 0) (by omega) (by decide) (by decide) (by decide) (by decide) (fun g101 R101 => ?_)
  refine R101.ln (k := 48) (by omega) rfl (fun g102 R102 => ?_)
  have S103 := R102.sk (k := 49) (by decide)
  refine S103.mk (k := 50) (z := 200) (ty := 0) (by omega) (by decide) (by decide) (by decide) (by decide) (fun g104 R104 => ?_)
  refine R104.ln (k := 50) (by omega) rfl (fun g105 R105 => ?_)
  refine R105.mk (k := 51) (z := 200) (ty := 0) (by omega) (by decide) (by decide) (by decide) (by decide) (fun g106 R106 => ?_)
  refine R106.ln (k := 51) (by omega) rfl (fun g107 R107 => ?_)
  refine R107.mk (k := 52) (z := 200) (ty := 0) (by omega) (by decide) (by decide) (by decide) (by decide) (fun g108 R108 => ?_)
  refine R108.ln (k := 52) (by omega) rfl (fun g109 R109 => ?_)
  refine R109.mk (k := 53) (z := 200) (ty := 0) (by omega) (by decide) (by decide) (by decide) (by decide) (fun g110 R110 => ?_)
  refine R110.ln (k := 53) (by omega) rfl (fun g111 R111 => ?_)
  have S112 := R111.sk (k := 54) (by decide)
  have S113 := S112.sk (k := 55) (by decide)
  refine S113.mk (k := 56) (z := 20) (ty := 0) (by omega) (by decide) (by decide) (by decide) (by decide) (fun g114 R114 => ?_)
  refine R114.ln (k := 56) (by omega) rfl (fun g115 R115 => ?_)
  refine R115.mk (k := 57) (z := 20) (ty := 0) (by omega) (by decide) (by decide) (by decide) (by decide) (fun g116 R116 => ?_)
  refine R116.ln (k := 57) (by omega) rfl (fun g117 R117 => ?_)
  unfold x12p_b457
  refine R117.mk (k := 58) (z := 20) (ty := 0) (by omega) (by decide) (by decide) (by decide) (by decide) (fun g118 R118 => ?_)
  refine R118.ln (k := 58) (by omega) rfl (fun g119 R119 => ?_)
  refine R119.mk (k := 59) (z := 20) (ty := 0) (by omega) (by decide) (by decide) (by decide) (by decide) (fun g120 R120 => ?_)
  refine R120.ln (k := 59) (by omega) rfl (fun g121 R121 => ?_)
  refine R121.mk (k := 60) (z := 20) (ty := 0) (by omega) (by decide) (by decide) (by decide) (by decide) (fun g122 R122 => ?_)
  refine R122.ln (k := 60) (by omega) rfl (fun g123 R123 => ?_)
  refine R123.pi (k := 61) (fun g124 R124 => ?_)
  have S125 := R124.sk (k := 61) (by decide)
  refine S125.mk (k := 62) (z := 100) (ty := 0) (by omega) (by decide) (by decide) (by decide) (by decide) (fun g126 R126 => ?_)
  refine R126.ln (k := 62) (by omega) rfl (fun g127 R127 => ?_)
  have S128 := R127.sk (k := 63) (by decide)
  have S129 := S128.sk (k := 64) (by decide)
  refine S129.mk (k := 65) (z := 20) (ty := 0) (by omega) (by decide) (by decide) (by decide) (by decide) (fun g130 R130 => ?_)
  refine R130.ln (k := 65) (by omega) rfl (fun g131 R131 => ?_)
  refine R131.mk (k := 66) (z := 3) (ty := 0) (by omega) (by decide) (by decide) (by decide) (by decide) (fun g132 R132 => ?_)
  refine R132.wr (k := 66) (j := 0) (by omega) (by decide) (by decide) (by decide) (by decide) (fun g133 R133 => ?_)
  refine R133.wr (k := 66) (j := 1) (by omega) (by decide) (by decide) (by decide) (by decide) (fun g134 R134 => ?_)
  refine R134.wr (k := 66) (j := 2) (by omega) (by decide) (by decide) (by decide) (by decide) (fun g135 R135 => ?_)
  refine R135.ln (k := 66) (by omega) rfl (fun g136 R136 => ?_)
  refine R136.mk (k := 67) (z := 3) (ty := 0) (by omega) (by decide) (by decide) (by decide) (by decide) (fun g137 R137 => ?_)
  refine R137.ln (k := 67) (by omega) rfl (fun g138 R138 => ?_)
  unfold x12p_b528
  refine R138.mk (k := 68) (z := 120) (ty := 0) (by omega) (by decide) (by decide) (by decide) (by decide) (fun g139 R139 => ?_)
  refine R139.ln (k := 68) (by omega) rfl (fun g140 R140 => ?_)
  have S141 := R140.sk (k := 69) (by decide)
  have S142 := S141.sk (k := 70) (by decide)
  refine S142.mk (k := 71) (z := 79) (ty := 0) (by omega) (by decide) (by decide) (by decide) (by decide) (fun g143 R143 => ?_)
  refine R143.wr (k := 71) (j := 0) (by omega) (by decide) (by decide) (by decide) (by decide) (fun g144 R144 => ?_)
  refine R144.wr (k := 71) (j := 1) (by omega) (by decide) (by decide) (by decide) (by decide) (fun g145 R145 => ?_)
  refine R145.wr (k := 71) (j := 2) (by omega) (by decide) (by decide) (by decide) (by decide) (fun g146 R146 => ?_)
  refine R146.wr (k := 71) (j := 3) (by omega) (by decide) (by decide) (by decide) (by decide) (fun g147 R147 => ?_)
  refine R147.wr (k := 71) (j := 4) (by omega) (by decide) (by decide) (by decide) (by decide) (fun g148 R148 => ?_)
  refine R148.wr (k := 71) (j := 5) (by omega) (by decide) (by decide) (by decide) (by decide) (fun g149 R149 => ?_)
  refine R149.wr (k := 71) (j := 6) (by omega) (by decide) (by decide) (by decide) (by decide) (fun g150 R150 => ?_)
  refine R150.wr (k := 71) (j := 7) (by omega) (by decide) (by decide) (by decide) (by decide) (fun g151 R151 => ?_)
  refine R151.wr (k := 71) (j := 8) (by omega) (by decide) (by decide) (by decide) (by decide) (fun g152 R152 => ?_)
  refine R152.wr (k := 71) (j := 9) (by omega) (by decide) (by decide) (by decide) (by decide) (fun g153 R153 => ?_)
  refine R153.wr (k := 71) (j := 10) (by omega) (by decide) (by decide) (by decide) (by decide) (fun g154 R154 => ?_)
  refine R154.wr (k := 71) (j := 11) (by omega) (by decide) (by decide) (by decide) (by decide) (fun g155 R155 => ?_)
  refine R155.wr (k := 71) (j := 12) (by omega) (by decide) (by decide) (by decide) (by decide) (fun g156 R156 => ?_)
  refine R156.wr (k := 71) (j := 13) (by omega) (by decide) (by decide) (by decide) (by decide) (fun g157 R157 => ?_)
  refine R157.wr (k := 71) (j := 14) (by omega) (by decide) (by decide) (by decide) (by decide) (fun g158 R158 => ?_)
  refine R158.wr (k := 71) (j := 15) (by omega) (by decide) (by decide) (by decide) (by decide) (fun g159 R159 => ?_)
  refine R159.wr (k := 71) (j := 16) (by omega) (by decide) (by decide) (by decide) (by decide) (fun g160 R160 => ?_)
  refine R160.wr (k := 71) (j := 17) (by omega) (by decide) (by decide) (by decide) (by decide) (fun g161 R161 => ?_)
  refine R161.wr (k := 71) (j := 18) (by omega) (by decide) (by decide) (by decide) (by decide) (fun g162 R162 => ?_)
  refine R162.wr (k := 71) (j := 19) (by omega) (by decide) (by decide) (by decide) (by decide) (fun g163 R163 => ?_)
  refine R163.wr (k := 71) (j := 20) (by omega) (by decide) (by decide) (by decide) (by decide) (fun g164 R164 => ?_)
  refine R164.wr (k := 71) (j := 21) (by omega) (by decide) (by decide) (by decide) (by decide) (fun g165 R165 => ?_)
  refine R165.wr (k := 71) (j := 22) (by omega) (by decide) (by decide) (by decide) (by decide) (fun g166 R166 => ?_)
  refine R166.wr (k := 71) (j := 23) (by omega) (by decide) (by decide) (by decide) (by decide) (fun g167 R167 => ?_)
  refine R167.wr (k := 71) (j := 24) (by omega) (by decide) (by decide) (by decide) (by decide) (fun g168 R168 => ?_)
  refine R168.wr (k := 71) (j := 25) (by omega) (by decide) (by decide) (by decide) (by decide) (fun g169 R169 => ?_)
  refine R169.wr (k := 71) (j := 26) (by omega) (by decide) (by decide) (by decide) (by decide) (fun g170 R170 => ?_)
  refine R170.wr (k := 71) (j := 27) (by omega) (by decide) (by decide) (by decide) (by decide) (fun g171 R171 => ?_)
  refine R171.wr (k := 71) (j := 28) (by omega) (by decide) (by decide) (by decide) (by decide) (fun g172 R172 => ?_)
  refine R172.wr (k := 71) (j := 29) (by omega) (by decide) (by decide) (by decide) (by decide) (fun g173 R173 => ?_)
  refine R173.wr (k := 71) (j := 30) (by omega) (by decide) (by decide) (by decide) (by decide) (fun g174 R174 => ?_)
  refine R174.wr (k := 71) (j := 31) (by omega) (by decide) (by decide) (by decide) (by decide) (fun g175 R175 => ?_)
  refine R175.wr (k := 71) (j := 32) (by omega) (by decide) (by decide) (by decide) (by decide) (fun g176 R176 => ?_)
  refine R176.wr (k := 71) (j := 33) (by omega) (by decide) (by decide) (by decide) (by decide) (fun g177 R177 => ?_)
  refine R177.wr (k := 71) (j := 34) (by omega) (by decide) (by decide) (by decide) (by decide) (fun g178 R178 => ?_)
  refine R178.wr (k := 71) (j := 35) (by omega) (by decide) (by decide) (by decide) (by decide) (fun g179 R179 => ?_)
  refine R179.wr (k := 71) (j := 36) (by omega) (by decide) (by decide) (by decide) (by decide) (fun g180 R180 => ?_)
  refine R180.wr (k := 71) (j := 37) (by omega) (by decide) (by decide) (by decide) (by decide) (fun g181 R181 => ?_)
  refine R181.wr (k := 71) (j := 38) (by omega) (by decide) (by decide) (by decide) (by decide) (fun g182 R182 => ?_)
  refine R182.wr (k := 71) (j := 39) (by omega) (by decide) (by decide) (by decide) (by decide) (fun g183 R183 => ?_)
  refine R183.wr (k := 71) (j := 40) (by omega) (by decide) (by decide) (by decide) (by decide) (fun g184 R184 => ?_)
  refine R184.wr (k := 71) (j := 41) (by omega) (by decide) (by decide) (by decide) (by decide) (fun g185 R185 => ?_)
  refine R185.wr (k := 71) (j := 42) (by omega) (by decide) (by decide) (by decide) (by decide) (fun g186 R186 => ?_)
  refine R186.wr (k := 71) (j := 43) (by omega) (by decide) (by decide) (by decide) (by decide) (fun g187 R187 => ?_)
  refine R187.wr (k := 71) (j := 44) (by omega) (by decide) (by decide) (by decide) (by decide) (fun g188 R188 => ?_)
  refine R188.wr (k := 71) (j := 45) (by omega) (by decide) (by decide) (by decide) (by decide) (fun g189 R189 => ?_)
  refine R189.wr (k := 71) (j := 46) (by omega) (by decide) (by decide) (by decide) (by decide) (fun g190 R190 => ?_)
  refine R190.wr (k := 71) (j := 47) (by omega) (by decide) (by decide) (by decide) (by decide) (fun g191 R191 => ?_)
  refine R191.wr (k := 71) (j := 48) (by omega) (by decide) (by decide) (by decide) (by decide) (fun g192 R192 => ?_)
  refine R192.wr (k := 71) (j := 49) (by omega) (by decide) (by decide) (by decide) (by decide) (fun g193 R193 => ?_)
  refine R193.wr (k := 71) (j := 50) (by omega) (by decide) (by decide) (by decide) (by decide) (fun g194 R194 => ?_)
  refine R194.wr (k := 71) (j := 51) (by omega) (by decide) (by decide) (by decide) (by decide) (fun g195 R195 => ?_)
  refine R195.wr (k := 71) (j := 52) (by omega) (by decide) (by decide) (by decide) (by decide) (fun g196 R196 => ?_)
  refine R196.wr (k := 71) (j := 53) (by omega) (by decide) (by decide) (by decide) (by decide) (fun g197 R197 => ?_)
  refine R197.wr (k := 71) (j := 54) (by omega) (by decide) (by decide) (by decide) (by decide) (fun g198 R198 => ?_)
  refine R198.wr (k := 71) (j := 55) (by omega) (by decide) (by decide) (by decide) (by decide) (fun g199 R199 => ?_)
  refine R199.wr (k := 71) (j := 56) (by omega) (by decide) (by decide) (by decide) (by decide) (fun g200 R200 => ?_)
  refine R200.wr (k := 71) (j := 57) (by omega) (by decide) (by decide) (by decide) (by decide) (fun g201 R201 => ?_)
  refine R201.wr (k := 71) (j := 58) (by omega) (by decide) (by decide) (by decide) (by decide) (fun g202 R202 => ?_)
  refine R202.wr (k := 71) (j := 59) (by omega) (by decide) (by decide) (by decide) (by decide) (fun g203 R203 => ?_)
  refine R203.wr (k := 71) (j := 60) (by omega) (by decide) (by decide) (by decide) (by decide) (fun g204 R204 => ?_)
  refine R204.wr (k := 71) (j := 61) (by omega) (by decide) (by decide) (by decide) (by decide) (fun g205 R205 => ?_)
  refine R205.wr (k := 71) (j := 62) (by omega) (by decide) (by decide) (by decide) (by decide) (fun g206 R206 => ?_)
  refine R206.wr (k := 71) (j := 63) (by omega) (by decide) (by decide) (by decide) (by decide) (fun g207 R207 => ?_)
  refine R207.wr (k := 71) (j := 64) (by omega) (by decide) (by decide) (by decide) (by decide) (fun g208 R208 => ?_)
  refine R208.wr (k := 71) (j := 65) (by omega) (by decide) (by decide) (by decide) (by decide) (fun g209 R209 => ?_)
  refine R209.wr (k := 71) (j := 66) (by omega) (by decide) (by decide) (by decide) (by decide) (fun g210 R210 => ?_)
  refine R210.wr (k := 71) (j := 67) (by omega) (by decide) (by decide) (by decide) (by decide) (fun g211 R211 => ?_)
  refine R211.wr (k := 71) (j := 68) (by omega) (by decide) (by decide) (by decide) (by decide) (fun g212 R212 => ?_)
  refine R212.wr (k := 71) (j := 69) (by omega) (by decide) (by decide) (by decide) (by decide) (fun g213 R213 => ?_)
  refine R213.wr (k := 71) (j := 70) (by omega) (by decide) (by decide) (by decide) (by decide) (fun g214 R214 => ?_)
  refine R214.wr (k := 71) (j := 71) (by omega) (by decide) (by decide) (by decide) (by decide) (fun g215 R215 => ?_)
  refine R215.wr (k := 71) (j := 72) (by omega) (by decide) (by decide) (by decide) (by decide) (fun g216 R216 => ?_)
  refine R216.wr (k := 71) (j := 73) (by omega) (by decide) (by decide) (by decide) (by decide) (fun g217 R217 => ?_)
  refine R217.wr (k := 71) (j := 74) (by omega) (by decide) (by decide) (by decide) (by decide) (fun g218 R218 => ?_)
  refine R218.wr (k := 71) (j := 75) (by omega) (by decide) (by decide) (by decide) (by decide) (fun g219 R219 => ?_)
  refine R219.wr (k := 71) (j := 76) (by omega) (by decide) (by decide) (by decide) (by decide) (fun g220 R220 => ?_)
  refine R220.wr (k := 71) (j := 77) (by omega) (by decide) (by decide) (by decide) (by decide) (fun g221 R221 => ?_)
  refine R221.wr (k := 71) (j := 78) (by omega) (by decide) (by decide) (by decide) (by decide) (fun g222 R222 => ?_)
  refine R222.ln (k := 71) (by omega) rfl (fun g223 R223 => ?_)
  refine R223.pi (k := 73) (fun g224 R224 => ?_)
  have S225 := R224.sk (k := 72) (by decide)
  have S226 := S225.sk (k := 73) (by decide)
  refine S226.mk (k := 74) (z := 16) (ty := 0) (by omega) (by decide) (by decide) (by decide) (by decide) (fun g227 R227 => ?_)
  refine R227.ln (k := 74) (by omega) rfl (fun g228 R228 => ?_)
  refine R228.mk (k := 75) (z := 16) (ty := 0) (by omega) (by decide) (by decide) (by decide) (by decide) (fun g229 R229 => ?_)
  refine R229.ln (k := 75) (by omega) rfl (fun g230 R230 => ?_)
  refine R230.mk (k := 76) (z := 40) (ty := 0) (by omega) (by decide) (by decide) (by decide) (by decide) (fun g231 R231 => ?_)
  refine R231.ln (k := 76) (by omega) rfl (fun g232 R232 => ?_)
  rw [← hP]
  exact ⟨_, rfl, R232⟩
end
