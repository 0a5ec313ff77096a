/-! ===== public: farm ===== -/
section
variable {L N : Nat} {xs : Nat → Int32} {h h' : AH} {σ σ' : SG} {tr : Nat → Nat} {u n : Nat}
def isCr (k : Nat) : Prop := k = 2 ∨ k = 3 ∨ k = 6 ∨ k = 7
theorem xpc_ok {r k : Nat} {x : Int32} (e : isCr (kd h r)) : xpc h r k x = some (sfi h r k x) := by
  have e' : kd h r = 2 ∨ kd h r = 3 ∨ kd h r = 6 ∨ kd h r = 7 := e
  unfold xpc; rw [if_pos e']
theorem xpcr_ok {r k v : Nat} (e : isCr (kd h r)) (hv : kd h v ≠ 0) : xpcr h r k v = some (sfr h r k (some v)) := by
  have e' : kd h r = 2 ∨ kd h r = 3 ∨ kd h r = 6 ∨ kd h r = 7 := e
  unfold xpcr; rw [if_pos ⟨e', hv⟩]
theorem isCr_0 {k : Nat} (e : isCr k) : k ≠ 0 := by unfold isCr at e; omega
def cropI (h : AH) (m : Nat) (a b : Int32) : AH := sfi (sfi (sfi (sfr (mkc h (390 + m) 20 20) (360 + m) 2 (some (390 + m))) (360 + m) 3 0) (360 + m) 0 a) (360 + m) 1 b
theorem x1_init {m : Nat} {a b : Int32} (e : isCr (kd h (360 + m))) (e9 : kd h (390 + m) = 0) : f_X1_init h (360 + m) a b = some (cropI h m a b) := by
  have e0 := isCr_0 e
  have em : 360 + m + 30 = 390 + m := by omega
  have k1 : kd (mkc h (390 + m) 20 20) (360 + m) = kd h (360 + m) := kd_mkc_ne (by omega)
  have c1 : isCr (kd (mkc h (390 + m) 20 20) (360 + m)) := by rw [k1]; exact e
  have k2 : kd (mkc h (390 + m) 20 20) (390 + m) = 20 := kd_mkc
  have e' : kd h (360 + m) = 2 ∨ kd h (360 + m) = 3 ∨ kd h (360 + m) = 6 ∨ kd h (360 + m) = 7 := e
  unfold f_X1_init
  rw [if_pos e', gl2 e0 e0, obs, em, show (20 : Int32) = nI 20 from lt20, xna_ok e9 (by omega), obs, xpcr_ok c1 (by rw [k2]; decide), obs, xpc_ok (h := sfr (mkc h (390 + m) 20 20) (360 + m) 2 (some (390 + m))) c1, obs, xpc_ok (h := sfi (sfr (mkc h (390 + m) 20 20) (360 + m) 2 (some (390 + m))) (360 + m) 3 0) c1, obs, xpc_ok (h := sfi (sfi (sfr (mkc h (390 + m) 20 20) (360 + m) 2 (some (390 + m))) (360 + m) 3 0) (360 + m) 0 a) c1, obs]
  rfl
theorem newCrop_ok {m c : Nat} {b : Int32} (hm : m < 24) (hc : c < 4) (e6 : kd h (360 + m) = 0) (e9 : kd h (390 + m) = 0) : f_X11_newCrop h (nI c) (nI m) b = some (360 + m, cropI (mkc h (360 + m) (crK (nI c)) 0) m (nI m) b) := by
  have cl : (nI m).toNatClampNeg = m := nI_clamp (by omega)
  have k9 : ∀ K, kd (mkc h (360 + m) K 0) (390 + m) = 0 := fun K => by rw [kd_mkc_ne (by omega)]; exact e9
  have kk : ∀ K, kd (mkc h (360 + m) K 0) (360 + m) = K := fun K => kd_mkc
  have c4 : c = 0 ∨ c = 1 ∨ c = 2 ∨ c = 3 := by omega
  unfold f_X11_newCrop
  rw [cl]
  rcases c4 with rfl | rfl | rfl | rfl
  · have cr : isCr (kd (mkc h (360 + m) 3 0) (360 + m)) := by rw [kk]; exact Or.inr (Or.inl rfl)
    rw [if_neg (by decide), if_neg (by decide), if_neg (by decide), gl0, obs, xnw_ok e6, obs, gl1 (isCr_0 cr), obs, x1_init cr (k9 3), obs]
    rfl
  · have cr : isCr (kd (mkc h (360 + m) 6 0) (360 + m)) := by rw [kk]; exact Or.inr (Or.inr (Or.inl rfl))
    have i4 : f_X4_init (mkc h (360 + m) 6 0) (360 + m) (nI m) b = some (cropI (mkc h (360 + m) 6 0) m (nI m) b) := by
      unfold f_X4_init
      rw [if_pos (Or.inl (kk 6)), gl1 (isCr_0 cr), obs, x1_init cr (k9 6), obs]
    rw [if_pos (by decide), gl0, obs, xnw_ok e6, obs, gl1 (isCr_0 cr), obs, i4, obs]
    rfl
  · have cr : isCr (kd (mkc h (360 + m) 7 0) (360 + m)) := by rw [kk]; exact Or.inr (Or.inr (Or.inr rfl))
    have i4 : f_X4_init (mkc h (360 + m) 7 0) (360 + m) (nI m) b = some (cropI (mkc h (360 + m) 7 0) m (nI m) b) := by
      unfold f_X4_init
      rw [if_pos (Or.inr (kk 7)), gl1 (isCr_0 cr), obs, x1_init cr (k9 7), obs]
    have i5 : f_X5_init (mkc h (360 + m) 7 0) (360 + m) (nI m) b = some (cropI (mkc h (360 + m) 7 0) m (nI m) b) := by
      unfold f_X5_init
      rw [if_pos (kk 7), gl1 (isCr_0 cr), obs, i4, obs]
    rw [if_neg (by decide), if_pos (by decide), gl0, obs, xnw_ok e6, obs, gl1 (isCr_0 cr), obs, i5, obs]
    rfl
  · have cr : isCr (kd (mkc h (360 + m) 2 0) (360 + m)) := by rw [kk]; exact Or.inl rfl
    have i0 : f_X0_init (mkc h (360 + m) 2 0) (360 + m) (nI m) b = some (cropI (mkc h (360 + m) 2 0) m (nI m) b) := by
      unfold f_X0_init
      rw [if_pos (kk 2), gl1 (isCr_0 cr), obs, x1_init cr (k9 2), obs]
    rw [if_neg (by decide), if_neg (by decide), if_pos (by decide), gl0, obs, xnw_ok e6, obs, gl1 (isCr_0 cr), obs, i0, obs]
    rfl
def farmI (h : AH) (m : Nat) (x y a : Int32) : AH := sfr (sfi (sfi (sfi (sfi (sfi (sfi (sfi (sfr (mkc h (330 + m) 20 16) (300 + m) 5 (some (330 + m))) (300 + m) 6 0) (300 + m) 7 (-1)) (300 + m) 8 0) (300 + m) 0 (nI m)) (300 + m) 1 x) (300 + m) 2 y) (300 + m) 3 a) (300 + m) 4 (some (360 + m))
theorem x2_init {m : Nat} {x y a : Int32} (e : kd h (300 + m) = 4) (e3 : kd h (330 + m) = 0) (e6 : kd h (360 + m) ≠ 0) : f_X2_init h (300 + m) (nI m) x y a (360 + m) = some (farmI h m x y a) := by
  have em : 300 + m + 30 = 330 + m := by omega
  have k1 : kd (mkc h (330 + m) 20 16) (300 + m) = 3 + 1 := by rw [kd_mkc_ne (by omega)]; exact e
  have k2 : kd (mkc h (330 + m) 20 16) (330 + m) = 20 := kd_mkc
  have k6 : kd (mkc h (330 + m) 20 16) (360 + m) ≠ 0 := by rw [kd_mkc_ne (by omega)]; exact e6
  unfold f_X2_init
  rw [if_pos e, gl3 (by rw [e]; decide) e6 (by rw [e]; decide), obs, em, show (16 : Int32) = nI 16 from lt16, xna_ok e3 (by omega), obs, xpr_ok k1 (by rw [k2]; decide), obs, xpi_ok (h := sfr (mkc h (330 + m) 20 16) (300 + m) 5 (some (330 + m))) k1, obs, xpi_ok (h := sfi (sfr (mkc h (330 + m) 20 16) (300 + m) 5 (some (330 + m))) (300 + m) 6 0) k1, obs, xpi_ok (h := sfi (sfi (sfr (mkc h (330 + m) 20 16) (300 + m) 5 (some (330 + m))) (300 + m) 6 0) (300 + m) 7 (-1)) k1, obs,
    xpi_ok (h := sfi (sfi (sfi (sfr (mkc h (330 + m) 20 16) (300 + m) 5 (some (330 + m))) (300 + m) 6 0) (300 + m) 7 (-1)) (300 + m) 8 0) k1, obs, xpi_ok (h := sfi (sfi (sfi (sfi (sfr (mkc h (330 + m) 20 16) (300 + m) 5 (some (330 + m))) (300 + m) 6 0) (300 + m) 7 (-1)) (300 + m) 8 0) (300 + m) 0 (nI m)) k1, obs,
    xpi_ok (h := sfi (sfi (sfi (sfi (sfi (sfr (mkc h (330 + m) 20 16) (300 + m) 5 (some (330 + m))) (300 + m) 6 0) (300 + m) 7 (-1)) (300 + m) 8 0) (300 + m) 0 (nI m)) (300 + m) 1 x) k1, obs, xpi_ok (h := sfi (sfi (sfi (sfi (sfi (sfi (sfr (mkc h (330 + m) 20 16) (300 + m) 5 (some (330 + m))) (300 + m) 6 0) (300 + m) 7 (-1)) (300 + m) 8 0) (300 + m) 0 (nI m)) (300 + m) 1 x) (300 + m) 2 y) k1, obs,
    xpr_ok (h := sfi (sfi (sfi (sfi (sfi (sfi (sfi (sfr (mkc h (330 + m) 20 16) (300 + m) 5 (some (330 + m))) (300 + m) 6 0) (300 + m) 7 (-1)) (300 + m) 8 0) (300 + m) 0 (nI m)) (300 + m) 1 x) (300 + m) 2 y) (300 + m) 3 a) k1 k6, obs]
  rfl
theorem cropI_q {m r : Nat} {a b : Int32} (h1 : r ≠ 360 + m) (h2 : r ≠ 390 + m) : EQR h (cropI h m a b) r := ((((EQR.mkc h2).trans (EQR.sfr h1)).trans (EQR.sfi h1)).trans (EQR.sfi h1)).trans (EQR.sfi h1)
theorem farmI_q {m r : Nat} {x y a : Int32} (h1 : r ≠ 300 + m) (h2 : r ≠ 330 + m) : EQR h (farmI h m x y a) r := ((((((((EQR.mkc h2).trans (EQR.sfr h1)).trans (EQR.sfi h1)).trans (EQR.sfi h1)).trans (EQR.sfi h1)).trans (EQR.sfi h1)).trans (EQR.sfi h1)).trans (EQR.sfi h1)).trans ((EQR.sfi h1).trans (EQR.sfr h1))
def farmH (h : AH) (m : Nat) (x y c a : Int32) : AH := farmI (cropI (mkc (mkc h (300 + m) 4 0) (360 + m) (crK c) 0) m (nI m) a) m x y a
theorem farmH_q {m r : Nat} {x y c a : Int32} (h1 : r ≠ 300 + m) (h2 : r ≠ 330 + m) (h3 : r ≠ 360 + m) (h4 : r ≠ 390 + m) : EQR h (farmH h m x y c a) r := (((EQR.mkc h1).trans (EQR.mkc h3)).trans (cropI_q h3 h4)).trans (farmI_q h1 h2)
section
variable {m : Nat} {x y c a : Int32}
theorem fH_0 : kd (farmH h m x y c a) (300 + m) = 4 := by
  show kd (mkc (cropI (mkc (mkc h (300 + m) 4 0) (360 + m) (crK c) 0) m (nI m) a) (330 + m) 20 16) (300 + m) = 4
  rw [kd_mkc_ne (by omega), (cropI_q (by omega) (by omega)).1, kd_mkc_ne (by omega), kd_mkc]
theorem fH_3 : kd (farmH h m x y c a) (330 + m) = 20 ∧ ln (farmH h m x y c a) (330 + m) = 16 ∧ ∀ i, ai (farmH h m x y c a) (330 + m) i = 0 := by
  refine ⟨?_, ?_, fun i => ?_⟩
  · exact (show kd (mkc (cropI (mkc (mkc h (300 + m) 4 0) (360 + m) (crK c) 0) m (nI m) a) (330 + m) 20 16) (330 + m) = 20 from kd_mkc)
  · exact (show ln (mkc (cropI (mkc (mkc h (300 + m) 4 0) (360 + m) (crK c) 0) m (nI m) a) (330 + m) 20 16) (330 + m) = 16 from ln_mkc)
  · exact (show ai (mkc (cropI (mkc (mkc h (300 + m) 4 0) (360 + m) (crK c) 0) m (nI m) a) (330 + m) 20 16) (330 + m) i = 0 from ai_mkc)
theorem fH_6 : kd (farmH h m x y c a) (360 + m) = crK c ∧ fr (farmH h m x y c a) (360 + m) 2 = some (390 + m) ∧ fi (farmH h m x y c a) (360 + m) 0 = nI m ∧ fi (farmH h m x y c a) (360 + m) 1 = a := by
  have q : EQR (cropI (mkc (mkc h (300 + m) 4 0) (360 + m) (crK c) 0) m (nI m) a) (farmH h m x y c a) (360 + m) := farmI_q (by omega) (by omega)
  rw [q.1, q.2.2.2.1, q.2.2.1]
  refine ⟨?_, ?_, ?_, ?_⟩
  · show kd (mkc (mkc (mkc h (300 + m) 4 0) (360 + m) (crK c) 0) (390 + m) 20 20) (360 + m) = crK c
    rw [kd_mkc_ne (by omega), kd_mkc]
  · show fr (sfr (mkc (mkc (mkc h (300 + m) 4 0) (360 + m) (crK c) 0) (390 + m) 20 20) (360 + m) 2 (some (390 + m))) (360 + m) 2 = some (390 + m)
    rw [fr_sfr, if_pos ⟨rfl, rfl⟩]
  · unfold cropI
    rw [fi_sfi, if_neg (by omega), fi_sfi, if_pos ⟨rfl, rfl⟩]
  · unfold cropI
    rw [fi_sfi, if_pos ⟨rfl, rfl⟩]
theorem fH_9 : kd (farmH h m x y c a) (390 + m) = 20 ∧ ln (farmH h m x y c a) (390 + m) = 20 := by
  have q : EQR (cropI (mkc (mkc h (300 + m) 4 0) (360 + m) (crK c) 0) m (nI m) a) (farmH h m x y c a) (390 + m) := farmI_q (by omega) (by omega)
  rw [q.1, q.2.1]
  exact ⟨(show kd (mkc (mkc (mkc h (300 + m) 4 0) (360 + m) (crK c) 0) (390 + m) 20 20) (390 + m) = 20 from kd_mkc), (show ln (mkc (mkc (mkc h (300 + m) 4 0) (360 + m) (crK c) 0) (390 + m) 20 20) (390 + m) = 20 from ln_mkc)⟩
theorem fH_f : (fi (farmH h m x y c a) (300 + m) 0 = nI m ∧ fi (farmH h m x y c a) (300 + m) 1 = x ∧ fi (farmH h m x y c a) (300 + m) 2 = y ∧ fi (farmH h m x y c a) (300 + m) 3 = a) ∧ (fi (farmH h m x y c a) (300 + m) 6 = 0 ∧ fi (farmH h m x y c a) (300 + m) 7 = -1 ∧ fi (farmH h m x y c a) (300 + m) 8 = 0) ∧ fr (farmH h m x y c a) (300 + m) 4 = some (360 + m) ∧ fr (farmH h m x y c a) (300 + m) 5 = some (330 + m) := by
  unfold farmH
  generalize cropI (mkc (mkc h (300 + m) 4 0) (360 + m) (crK c) 0) m (nI m) a = g
  have ff : fi (farmI g m x y a) = fi (sfi (sfi (sfi (sfi (sfi (sfi (sfi (sfr (mkc g (330 + m) 20 16) (300 + m) 5 (some (330 + m))) (300 + m) 6 0) (300 + m) 7 (-1)) (300 + m) 8 0) (300 + m) 0 (nI m)) (300 + m) 1 x) (300 + m) 2 y) (300 + m) 3 a) := rfl
  have rr : ∀ k, fr (farmI g m x y a) (300 + m) k = fr (sfr (sfr (mkc g (330 + m) 20 16) (300 + m) 5 (some (330 + m))) (300 + m) 4 (some (360 + m))) (300 + m) k := fun _ => rfl
  rw [ff, rr, rr]
  refine ⟨⟨?_, ?_, ?_, ?_⟩, ⟨?_, ?_, ?_⟩, ?_, ?_⟩
  · simp [fi_sfi]
  · simp [fi_sfi]
  · simp [fi_sfi]
  · simp [fi_sfi]
  · simp [fi_sfi]
  · simp [fi_sfi]
  · simp [fi_sfi]
  · simp [fr_sfr]
  · simp [fr_sfr]
end
def farmS (σ : SG) (x y c a : Int32) : SG := s1 (s2 (s2 (s2 (s2 (s2 σ 27 (cn σ 26) x) 28 (cn σ 26) y) 29 (cn σ 26) c) 30 (cn σ 26) a) 32 (cn σ 26) (-1)) 26 (nI (cn σ 26 + 1))
section
variable {x y c a : Int32}
theorem farmS_row {k j : Nat} (e : (k ≠ 27 ∧ k ≠ 28 ∧ k ≠ 29 ∧ k ≠ 30 ∧ k ≠ 32) ∨ j ≠ cn σ 26) : (farmS σ x y c a).2 k j = σ.2 k j := by
  show (s2 (s2 (s2 (s2 (s2 σ 27 (cn σ 26) x) 28 (cn σ 26) y) 29 (cn σ 26) c) 30 (cn σ 26) a) 32 (cn σ 26) (-1)).2 k j = σ.2 k j
  rw [s2_ite, if_neg (by omega), s2_ite, if_neg (by omega), s2_ite, if_neg (by omega), s2_ite, if_neg (by omega), s2_ite, if_neg (by omega)]
theorem farmS_r {k : Nat} (e : k ≠ 27 ∧ k ≠ 28 ∧ k ≠ 29 ∧ k ≠ 30 ∧ k ≠ 32) : (farmS σ x y c a).2 k = σ.2 k := by
  funext j
  exact farmS_row (Or.inl e)
theorem farmS_c (W : CT σ) : cn (farmS σ x y c a) 26 = cn σ 26 + 1 := by
  have := W.f
  exact cn_eq (show (s1 (s2 (s2 (s2 (s2 (s2 σ 27 (cn σ 26) x) 28 (cn σ 26) y) 29 (cn σ 26) c) 30 (cn σ 26) a) 32 (cn σ 26) (-1)) 26 (nI (cn σ 26 + 1))).1 26 = nI (cn σ 26 + 1) from s1_eq) (by omega)
theorem farmS_1 {k : Nat} (e : k ≠ 26) : (farmS σ x y c a).1 k = σ.1 k := s1_ne e
theorem farmS_ct {k : Nat} (e : k ≠ 26) : ct (farmS σ x y c a) k = ct σ k := by
  unfold ct cn
  rw [farmS_1 e]
theorem farmS_n : (farmS σ x y c a).2 27 (cn σ 26) = x ∧ (farmS σ x y c a).2 28 (cn σ 26) = y ∧ (farmS σ x y c a).2 29 (cn σ 26) = c ∧ (farmS σ x y c a).2 30 (cn σ 26) = a ∧ (farmS σ x y c a).2 32 (cn σ 26) = -1 := by
  unfold farmS
  refine ⟨?_, ?_, ?_, ?_, ?_⟩ <;> simp [s1, s2_ite]
theorem farm_cs {h3 : AH} (C : CS h σ tr u) (W : WV σ) (X : WX σ n) (hn : cn σ 26 < 24) (hu : u ≤ 900) (Z : LZ h3 12 (cn σ 26 + 1) (fun j => 300 + j)) (hz : fi h3 12 2 = nI (cn σ 26 + 1)) (hk : kd h3 12 = 1) (Q3 : ∀ r, r ≠ 12 → (r < 400 + 8 * 12 ∨ 408 + 8 * 12 ≤ r) → EQR (farmH h (cn σ 26) x y c a) h3 r) : CS h3 (farmS σ x y c a) tr u := by
  have hG := W.1.g
  have hF := W.1.f
  have hS := W.1.s
  obtain ⟨z31, z33, z34⟩ := X.2.2.2.2.2.2.2.1 (cn σ 26) (Nat.le_refl _) hn
  have Q : ∀ r, r ≠ 12 → r ≠ 300 + cn σ 26 → r ≠ 330 + cn σ 26 → r ≠ 360 + cn σ 26 → r ≠ 390 + cn σ 26 → (r < 400 + 8 * 12 ∨ 408 + 8 * 12 ≤ r) → EQR h h3 r := fun r h1 h2 h4 h5 h6 h7 => (farmH_q h2 h4 h5 h6).trans (Q3 r h1 h7)
  have c' := farmS_c (σ := σ) (x := x) (y := y) (c := c) (a := a) W.1
  have c0 : cn (farmS σ x y c a) 0 = cn σ 0 := by unfold cn; rw [farmS_1 (by decide)]
  have c46 : cn (farmS σ x y c a) 46 = cn σ 46 := by unfold cn; rw [farmS_1 (by decide)]
  have q0 : EQR (farmH h (cn σ 26) x y c a) h3 (300 + cn σ 26) := Q3 _ (by omega) (by omega)
  have q3 : EQR (farmH h (cn σ 26) x y c a) h3 (330 + cn σ 26) := Q3 _ (by omega) (by omega)
  have q6 : EQR (farmH h (cn σ 26) x y c a) h3 (360 + cn σ 26) := Q3 _ (by omega) (by omega)
  have q9 : EQR (farmH h (cn σ 26) x y c a) h3 (390 + cn σ 26) := Q3 _ (by omega) (by omega)
  obtain ⟨⟨f0, f1, f2, f3⟩, ⟨f6, f7, f8⟩, r4, r5⟩ := fH_f (h := h) (m := cn σ 26) (x := x) (y := y) (c := c) (a := a)
  obtain ⟨n27, n28, n29, n30, n32⟩ := farmS_n (σ := σ) (x := x) (y := y) (c := c) (a := a)
  refine C.of3 (fun r hr => Q r (by omega) (by omega) (by omega) (by omega) (by omega) (by omega)) (fun r h1 h2 => ?_) ?_ ?_ ?_ ?_ (farmS_1 (by decide)) (farmS_r (by decide)) (farmS_r (by decide)) (farmS_r (by decide)) (farmS_r (by decide)) ?_ ?_ ?_ ?_
  · have : r = 10 ∨ r = 11 ∨ r = 12 ∨ r = 13 := by omega
    rcases this with rfl | rfl | rfl | rfl
    · rw [(Q 10 (by omega) (by omega) (by omega) (by omega) (by omega) (by omega)).1]; exact kk10 C
    · rw [(Q 11 (by omega) (by omega) (by omega) (by omega) (by omega) (by omega)).1]; exact kk11 C
    · exact hk
    · rw [(Q 13 (by omega) (by omega) (by omega) (by omega) (by omega) (by omega)).1]; exact kk13 C
  · have tI : ∀ q ∈ dI, (q.2.2 ≠ 26 ∧ q.1 ≠ 12 ∧ q.1 < 100) ∨ q = (12, 2, 26) := by decide
    have tC : ∀ q ∈ dC, 14 ≤ q.1 ∧ q.1 < 100 := by decide
    have tF : ∀ q ∈ dF, (q.1 = 300 ∧ q.2.2.2.1 = 26) ∨ (14 ≤ q.1 ∧ q.1 + q.2.2.2.2 ≤ 300) := by decide
    have tK : ∀ q ∈ dF, q.2.2.2.1 = 26 ∨ (q.2.2.1 ≠ 27 ∧ q.2.2.1 ≠ 28 ∧ q.2.2.1 ≠ 29 ∧ q.2.2.1 ≠ 30 ∧ q.2.2.1 ≠ 32) := by decide
    have tN : ∀ q ∈ dF, q.2.2.2.1 = 26 → q.1 = 300 ∧ ((q.2.1 = 1 ∧ q.2.2.1 = 27) ∨ (q.2.1 = 2 ∧ q.2.2.1 = 28) ∨ (q.2.1 = 3 ∧ q.2.2.1 = 30) ∨ (q.2.1 = 6 ∧ q.2.2.1 = 31) ∨ (q.2.1 = 7 ∧ q.2.2.1 = 32) ∨ (q.2.1 = 8 ∧ q.2.2.1 = 33)) := by decide
    have tA : ∀ q ∈ dA, (14 ≤ q.1 ∧ q.1 < 100) ∧ (q.2.2.2.1 ≠ 27 ∧ q.2.2.2.1 ≠ 28 ∧ q.2.2.2.1 ≠ 29 ∧ q.2.2.2.1 ≠ 30 ∧ q.2.2.2.1 ≠ 32) := by decide
    have tB : ∀ q ∈ dB, q = (330, 16, 34, 26, 24) ∨ (q.2.2.2.1 ≠ 26 ∧ 14 ≤ q.1 ∧ q.1 + q.2.2.2.2 ≤ 100) := by decide
    have tB2 : ∀ q ∈ dB, q.2.2.1 ≠ 27 ∧ q.2.2.1 ≠ 28 ∧ q.2.2.1 ≠ 29 ∧ q.2.2.1 ≠ 30 ∧ q.2.2.1 ≠ 32 := by decide
    refine C.d.nw (c := 26) (m := cn σ 26) rfl c' (fun d h1 _ => farmS_ct h1) (fun q hq => ?_) (fun q hq => ?_) (fun q hq j hj => ⟨?_, ?_⟩) (fun q hq e => ?_) (fun q hq => ⟨?_, ?_⟩) (fun q hq j hj => ?_) (fun q hq => ?_) (fun q hq e i hi => ?_)
    · rcases tI q hq with ⟨z1, z2, z3⟩ | z
      · rw [(Q q.1 z2 (by omega) (by omega) (by omega) (by omega) (by omega)).2.2.1, farmS_1 z1]; exact C.d.1 q hq
      · rw [z]
        show fi h3 12 2 = (farmS σ x y c a).1 26
        rw [hz]
        exact (show (s1 (s2 (s2 (s2 (s2 (s2 σ 27 (cn σ 26) x) 28 (cn σ 26) y) 29 (cn σ 26) c) 30 (cn σ 26) a) 32 (cn σ 26) (-1)) 26 (nI (cn σ 26 + 1))).1 26 = nI (cn σ 26 + 1) from s1_eq).symm
    · have := tC q hq
      exact (Q q.1 (by omega) (by omega) (by omega) (by omega) (by omega) (by omega)).2.2.1
    · have hm := Nat.lt_of_lt_of_le hj (W.1.F q hq)
      have hc : q.2.2.2.1 = 26 → j < cn σ 26 := fun e => by rw [e] at hj; exact hj
      have := tF q hq
      exact (Q (q.1 + j) (by omega) (by omega) (by omega) (by omega) (by omega) (by omega)).2.2.1
    · have hc : q.2.2.2.1 = 26 → j < cn σ 26 := fun e => by rw [e] at hj; exact hj
      have := tK q hq
      exact farmS_row (by omega)
    · obtain ⟨e1, e2⟩ := tN q hq e
      rw [e1]
      rcases e2 with ⟨e2, e3⟩ | ⟨e2, e3⟩ | ⟨e2, e3⟩ | ⟨e2, e3⟩ | ⟨e2, e3⟩ | ⟨e2, e3⟩
      · rw [e2, e3, q0.2.2.1, f1, n27]
      · rw [e2, e3, q0.2.2.1, f2, n28]
      · rw [e2, e3, q0.2.2.1, f3, n30]
      · rw [e2, e3, q0.2.2.1, f6, farmS_r (by decide), z31]
      · rw [e2, e3, q0.2.2.1, f7, n32]
      · rw [e2, e3, q0.2.2.1, f8, farmS_r (by decide), z33]
    · have := (tA q hq).1
      exact (Q q.1 (by omega) (by omega) (by omega) (by omega) (by omega) (by omega)).2.2.2.2.1
    · exact farmS_r (tA q hq).2
    · have hm := Nat.lt_of_lt_of_le hj (W.1.B q hq)
      have hc : q.2.2.2.1 = 26 → j < cn σ 26 := fun e => by rw [e] at hj; exact hj
      rcases tB q hq with rfl | z
      · have hj2 : j < cn σ 26 := hj
        exact (Q (330 + j) (by omega) (by omega) (by omega) (by omega) (by omega) (by omega)).2.2.2.2.1
      · exact (Q (q.1 + j) (by omega) (by omega) (by omega) (by omega) (by omega) (by omega)).2.2.2.2.1
    · exact farmS_r (tB2 q hq)
    · rcases tB q hq with rfl | z
      · show ai h3 (330 + cn σ 26) i = σ.2 34 (16 * cn σ 26 + i)
        rw [q3.2.2.2.2.1, fH_3.2.2 i, z34 i hi]
      · exact absurd e z.1
  · intro q hq
    have tO : ∀ q ∈ oB, (q = (300, 26, 4, 24) ∨ q = (330, 26, 20, 24) ∨ q = (390, 26, 20, 24)) ∨ (q.2.1 ≠ 26 ∧ 14 ≤ q.1 ∧ q.1 + q.2.2.2 ≤ 300 ∧ q.2.1 < 100) := by decide
    have tO2 : ∀ q ∈ oB, ct σ q.2.1 ≤ q.2.2.2 := by
      have t : ∀ q ∈ oB, (q.2.1 = 0 ∧ q.2.2.2 = 8) ∨ (q.2.1 = 26 ∧ q.2.2.2 = 24) ∨ (q.2.1 = 46 ∧ q.2.2.2 = 8) := by decide
      intro q hq
      rcases t q hq with ⟨e1, e2⟩ | ⟨e1, e2⟩ | ⟨e1, e2⟩
      · rw [e1, e2]; exact hG.2
      · rw [e1, e2]; exact hF.2
      · rw [e1, e2]; exact hS.2
    have O := C.2.2.2.1 q hq
    have cs : ct (farmS σ x y c a) 26 = cn σ 26 + 1 := c'
    rcases tO q hq with (rfl | rfl | rfl) | ⟨z1, z2, z3, z4⟩
    · refine ⟨fun j hj => ?_, fun j h1 h2 => ?_⟩
      · rw [cs] at hj
        show kd h3 (300 + j) = 4
        by_cases ej : j = cn σ 26
        · rw [ej, q0.1]; exact fH_0
        · rw [(Q (300 + j) (by omega) (by omega) (by omega) (by omega) (by omega) (by omega)).1]; exact O.1 j (show j < cn σ 26 by omega)
      · rw [cs] at h1
        show kd h3 (300 + j) = 0
        have h2' : j < 24 := h2
        rw [(Q (300 + j) (by omega) (by omega) (by omega) (by omega) (by omega) (by omega)).1]
        exact O.2 j (show cn σ 26 ≤ j by omega) h2
    · refine ⟨fun j hj => ?_, fun j h1 h2 => ?_⟩
      · rw [cs] at hj
        show kd h3 (330 + j) = 20
        by_cases ej : j = cn σ 26
        · rw [ej, q3.1]; exact fH_3.1
        · rw [(Q (330 + j) (by omega) (by omega) (by omega) (by omega) (by omega) (by omega)).1]; exact O.1 j (show j < cn σ 26 by omega)
      · rw [cs] at h1
        show kd h3 (330 + j) = 0
        have h2' : j < 24 := h2
        rw [(Q (330 + j) (by omega) (by omega) (by omega) (by omega) (by omega) (by omega)).1]
        exact O.2 j (show cn σ 26 ≤ j by omega) h2
    · refine ⟨fun j hj => ?_, fun j h1 h2 => ?_⟩
      · rw [cs] at hj
        show kd h3 (390 + j) = 20
        by_cases ej : j = cn σ 26
        · rw [ej, q9.1]; exact fH_9.1
        · rw [(Q (390 + j) (by omega) (by omega) (by omega) (by omega) (by omega) (by omega)).1]; exact O.1 j (show j < cn σ 26 by omega)
      · rw [cs] at h1
        show kd h3 (390 + j) = 0
        have h2' : j < 24 := h2
        rw [(Q (390 + j) (by omega) (by omega) (by omega) (by omega) (by omega) (by omega)).1]
        exact O.2 j (show cn σ 26 ≤ j by omega) h2
    · rw [farmS_ct z1]
      have hm := tO2 q hq
      refine ⟨fun j hj => ?_, fun j h1 h2 => ?_⟩
      · rw [(Q (q.1 + j) (by omega) (by omega) (by omega) (by omega) (by omega) (by omega)).1]; exact O.1 j hj
      · rw [(Q (q.1 + j) (by omega) (by omega) (by omega) (by omega) (by omega) (by omega)).1]; exact O.2 j h1 h2
  · refine ⟨fun j hj => ?_, fun j h1 h2 => ?_⟩
    · rw [c'] at hj
      by_cases ej : j = cn σ 26
      · rw [ej, q6.1, q6.2.2.2.1, q9.2.1, q3.2.1, q0.2.2.2.1, q0.2.2.1, q6.2.2.1, n29, n30]
        exact ⟨⟨fH_6.1, fH_6.2.1, fH_9.2, fH_3.2.1, r4, r5⟩, f0, fH_6.2.2.1, fH_6.2.2.2⟩
      · have b0 := Q (300 + j) (by omega) (by omega) (by omega) (by omega) (by omega) (by omega)
        have b3 := Q (330 + j) (by omega) (by omega) (by omega) (by omega) (by omega) (by omega)
        have b6 := Q (360 + j) (by omega) (by omega) (by omega) (by omega) (by omega) (by omega)
        have b9 := Q (390 + j) (by omega) (by omega) (by omega) (by omega) (by omega) (by omega)
        rw [b6.1, b6.2.2.2.1, b9.2.1, b3.2.1, b0.2.2.2.1, b0.2.2.1, b6.2.2.1, farmS_row (Or.inr ej), farmS_row (Or.inr ej)]
        exact C.2.2.2.2.1.1 j (by omega)
    · rw [c'] at h1
      rw [(Q (360 + j) (by omega) (by omega) (by omega) (by omega) (by omega) (by omega)).1]
      exact C.2.2.2.2.1.2 j (by omega) h2
  · unfold AC
    rw [(Q 1 (by omega) (by omega) (by omega) (by omega) (by omega) (by omega)).2.2.2.1, farmS_1 (by decide), farmS_r (by decide), c']
    rcases C.2.2.2.2.2.1 with z | ⟨j, z1, z2, z3, z4⟩
    · exact Or.inl z
    · refine Or.inr ⟨j, by omega, z2, ?_, fun i hi hr => ?_⟩
      · rw [(Q (360 + j) (by omega) (by omega) (by omega) (by omega) (by omega) (by omega)).2.2.1]; exact z3
      · rw [(Q (390 + j) (by omega) (by omega) (by omega) (by omega) (by omega) (by omega)).2.2.2.2.1]; exact z4 i hi hr
  · exact C.2.2.2.2.2.2.2.2.1.eq (Q 11 (by omega) (by omega) (by omega) (by omega) (by omega) (by omega)) (fun i hi => Q _ (by omega) (by omega) (by omega) (by omega) (by omega) (by omega)) (fun r h1 h2 => Q r (by omega) (by omega) (by omega) (by omega) (by omega) (by omega)) hu (farmS_1 (by decide)) (fun k h1 h2 => farmS_r (by omega))
  · rw [c0]; exact C.2.2.2.2.2.2.2.2.2.1.eq (Q 10 (by omega) (by omega) (by omega) (by omega) (by omega) (by omega)) (fun i hi => Q _ (by omega) (by omega) (by omega) (by omega) (by omega) (by omega))
  · rw [c']; exact Z
  · rw [c46]; exact C.2.2.2.2.2.2.2.2.2.2.2.eq (Q 13 (by omega) (by omega) (by omega) (by omega) (by omega) (by omega)) (fun i hi => Q _ (by omega) (by omega) (by omega) (by omega) (by omega) (by omega))
theorem farm_wv (W : WV σ) (X : WX σ n) (hn : cn σ 26 < 24) (b27 : bd x 100) (b28 : bd y 100) (b29 : bd c 4) (b30 : bd a 100) : WV (farmS σ x y c a) := by
  obtain ⟨z31, z33, z34⟩ := X.2.2.2.2.2.2.2.1 (cn σ 26) (Nat.le_refl _) hn
  obtain ⟨n27, n28, n29, n30, n32⟩ := farmS_n (σ := σ) (x := x) (y := y) (c := c) (a := a)
  have c' := farmS_c (σ := σ) (x := x) (y := y) (c := c) (a := a) W.1
  refine W.of2 (CT.cc (σ := s2 (s2 (s2 (s2 (s2 σ 27 (cn σ 26) x) 28 (cn σ 26) y) 29 (cn σ 26) c) 30 (cn σ 26) a) 32 (cn σ 26) (-1)) W.1 (fun q hq e => ?_) (by omega)) (fun k hk => ?_) (fun k hk => ?_) ?_ ?_
  · have t : ∀ q ∈ cmax, q.1 = 26 → q.2 = 24 := by decide
    rw [t q hq e]; omega
  · have t : ∀ k ∈ vs3, k ≠ 26 := by decide
    exact s1_ne (t k hk)
  · have t : ∀ k ∈ vs2, k ≠ 27 ∧ k ≠ 28 ∧ k ≠ 29 ∧ k ≠ 30 ∧ k ≠ 32 := by decide
    exact farmS_r (t k hk)
  · intro q hq j hj
    have hle : ct σ q.2.2 ≤ ct (farmS σ x y c a) q.2.2 := by
      by_cases e : q.2.2 = 26
      · rw [e]
        show cn σ 26 ≤ cn (farmS σ x y c a) 26
        omega
      · rw [farmS_ct e]; exact Nat.le_refl _
    refine bd_mono ?_ hle
    by_cases e : q.2.1 = 26
    · have hj' : j < cn σ 26 + 1 := by
        rw [e] at hj
        have : ct (farmS σ x y c a) 26 = cn σ 26 + 1 := c'
        omega
      by_cases ej : j = cn σ 26
      · have t : ∀ q ∈ wR, q.2.1 = 26 → (q.1 = 27 ∧ q.2.2 = 200) ∨ (q.1 = 28 ∧ q.2.2 = 200) ∨ (q.1 = 29 ∧ q.2.2 = 104) ∨ (q.1 = 30 ∧ q.2.2 = 200) ∨ (q.1 = 33 ∧ q.2.2 = 103) := by decide
        rcases t q hq e with ⟨e1, e2⟩ | ⟨e1, e2⟩ | ⟨e1, e2⟩ | ⟨e1, e2⟩ | ⟨e1, e2⟩
        · rw [ej, e1, e2, n27]; exact b27
        · rw [ej, e1, e2, n28]; exact b28
        · rw [ej, e1, e2, n29]; exact b29
        · rw [ej, e1, e2, n30]; exact b30
        · rw [ej, e1, e2, farmS_r (by decide), z33]; exact ⟨0, show 0 < 3 by omega, lt0⟩
      · rw [farmS_row (Or.inr ej)]
        exact W.2.1 q hq j (by rw [e]; show j < cn σ 26; omega)
    · have t : ∀ q ∈ wR, q.2.1 = 26 ∨ (q.1 ≠ 27 ∧ q.1 ≠ 28 ∧ q.1 ≠ 29 ∧ q.1 ≠ 30 ∧ q.1 ≠ 32) := by decide
      rw [farmS_ct e] at hj
      rcases t q hq with z | z
      · exact absurd z e
      · rw [farmS_r z]; exact W.2.1 q hq j hj
  · unfold WL
    rw [show (farmS σ x y c a).2 5 = σ.2 5 from farmS_r (by decide)]
    exact W.2.2.1
theorem farm_wx (W : CT σ) (X : WX σ n) (hn : cn σ 26 < 24) : WX (farmS σ x y c a) n := by
  obtain ⟨z31, z33, z34⟩ := X.2.2.2.2.2.2.2.1 (cn σ 26) (Nat.le_refl _) hn
  obtain ⟨n27, n28, n29, n30, n32⟩ := farmS_n (σ := σ) (x := x) (y := y) (c := c) (a := a)
  have c' := farmS_c (σ := σ) (x := x) (y := y) (c := c) (a := a) W
  have c55 : cn (farmS σ x y c a) 55 = cn σ 55 := by unfold cn; rw [farmS_1 (by decide)]
  obtain ⟨y1, y2, y3, y4, y5, y6, y7, y8, y9⟩ := X
  refine ⟨fun j hj => ?_, by rw [farmS_1 (by decide)]; exact y2, by rw [farmS_r (by decide)]; exact y3, by rw [farmS_1 (by decide)]; exact y4, by rw [farmS_r (k := 66) (by decide), farmS_r (k := 67) (by decide)]; exact y5, by rw [c55, farmS_r (by decide)]; exact y6, by rw [farmS_r (by decide)]; exact y7, fun j h1 h2 => ?_, by rw [farmS_r (k := 17) (by decide), farmS_r (k := 18) (by decide)]; exact y9⟩
  · rw [c'] at hj
    rw [farmS_r (k := 31) (by decide), farmS_r (k := 34) (by decide)]
    by_cases ej : j = cn σ 26
    · rw [ej, n32]
      refine ⟨⟨0, by omega, by decide⟩, by rw [z31]; exact ⟨0, by omega, lt0⟩, fun s hs => by rw [z34 s hs]; exact ⟨0, by omega, lt0⟩⟩
    · rw [farmS_row (Or.inr ej)]
      exact y1 j (by omega)
  · rw [c'] at h1
    rw [farmS_r (k := 31) (by decide), farmS_r (k := 33) (by decide), farmS_r (k := 34) (by decide)]
    exact y8 j (by omega) h2
end
theorem in_99 {h : AH} {v : Int32} : (f_X12_in h v 1 99 = some 0 ∧ f_X11_within h v 1 99 = some 0) ∨ (∃ k, k < 100 ∧ v = nI k ∧ ∀ h', f_X12_in h' v 1 99 = some 1 ∧ f_X11_within h' v 1 99 = some 1) := by
  by_cases q1 : v < 1
  · refine Or.inl ⟨?_, ?_⟩
    · unfold f_X12_in; rw [if_pos q1]
    · unfold f_X11_within; rw [if_pos q1]
  · by_cases q2 : 99 < v
    · refine Or.inl ⟨?_, ?_⟩
      · unfold f_X12_in; rw [if_neg q1, if_pos q2]
      · unfold f_X11_within; rw [if_neg q1, if_pos q2]
    · have h1 := q1
      have h2 := q2
      rw [Int32.lt_iff_toInt_lt, show (1 : Int32).toInt = 1 by decide] at h1
      rw [Int32.lt_iff_toInt_lt, show (99 : Int32).toInt = 99 by decide] at h2
      obtain ⟨k, hk, ek⟩ := bd_of_int (x := v) (n := 100) (by omega)
      refine Or.inr ⟨k, hk, ek, fun h' => ⟨?_, ?_⟩⟩
      · unfold f_X12_in; rw [if_neg q1, if_neg q2]
      · unfold f_X11_within; rw [if_neg q1, if_neg q2]
theorem pub_farm {a b c d : Int32} (I : INV L xs h σ tr u n) (hn5 : n ≤ 600) : ∃ v h1 h2 σ' tr' u', f_X11_farm h 1 a b c d = some (v, h1) ∧ f_X12_farm h1 100 a b c d = some (v, h2) ∧ (kd h1 9000 = 30 ∧ ln h1 9000 = L ∧ ai h1 9000 = xs) ∧ INV L xs h2 σ' tr' u' (n + 1) := by
  obtain ⟨C, H, W, X, S, U⟩ := id I
  have hF := W.1.f
  by_cases hp : ok a 100 = true ∧ ok b 100 = true
  · obtain ⟨oa, ob⟩ := hp
    obtain ⟨x, hx, rfl⟩ := ok_of (by decide) oa
    obtain ⟨y, hy, rfl⟩ := ok_of (by decide) ob
    rcases okC c (n := 4) (by decide) with oc | ⟨oc, k, hk, rfl⟩
    · exact ⟨-2, h, h, σ, tr, u, by simp only [f_X11_farm, obs, b10, b01, bm, if_true_, if_false_, eq_self, not_true_eq_false, not_false_eq_true, true_or, or_true, or_false, false_or, and_true, true_and, and_false, false_and, or_self, and_self, Bool.false_eq_true, ite_self, n25, n20, n24, n100, kk1 C, RS.kk H, c_isGauge C W.1, c_isTerm C W.1, c_isFarm C W.1, c_isSeason, c_isPlace, r_isGauge H W.1, r_isTerm H W.1, r_isFarm H W.1, r_isSeason, r_isWeek, r_isPlace, r_isSheet, ci1, ri1, ci2, ri2, ci3, ri3, ci4, ri4, ci5, ri5, ci11, ri11, ci16, ri16, ci98, ri98, ci99, ri99, ci198, ri198, ci9999, ri9999, oa, ob, oc], by simp only [f_X12_farm, obs, b10, b01, bm, if_true_, if_false_, eq_self, not_true_eq_false, not_false_eq_true, true_or, or_true, or_false, false_or, and_true, true_and, and_false, false_and, or_self, and_self, Bool.false_eq_true, ite_self, n25, n20, n24, n100, kk1 C, RS.kk H, c_isGauge C W.1, c_isTerm C W.1, c_isFarm C W.1, c_isSeason, c_isPlace, r_isGauge H W.1, r_isTerm H W.1, r_isFarm H W.1, r_isSeason, r_isWeek, r_isPlace, r_isSheet, ci1, ri1, ci2, ri2, ci3, ri3, ci4, ri4, ci5, ri5, ci11, ri11, ci16, ri16, ci98, ri98, ci99, ri99, ci198, ri198, ci9999, ri9999, oa, ob, oc], S, I.up (by omega)⟩
    rcases in_99 (h := h) (v := d) with ⟨w1, w2⟩ | ⟨ar, har, rfl, wd⟩
    · exact ⟨-2, h, h, σ, tr, u, by simp only [f_X11_farm, obs, b10, b01, bm, if_true_, if_false_, eq_self, not_true_eq_false, not_false_eq_true, true_or, or_true, or_false, false_or, and_true, true_and, and_false, false_and, or_self, and_self, Bool.false_eq_true, ite_self, n25, n20, n24, n100, kk1 C, RS.kk H, c_isGauge C W.1, c_isTerm C W.1, c_isFarm C W.1, c_isSeason, c_isPlace, r_isGauge H W.1, r_isTerm H W.1, r_isFarm H W.1, r_isSeason, r_isWeek, r_isPlace, r_isSheet, ci1, ri1, ci2, ri2, ci3, ri3, ci4, ri4, ci5, ri5, ci11, ri11, ci16, ri16, ci98, ri98, ci99, ri99, ci198, ri198, ci9999, ri9999, oa, ob, oc, w2], by simp only [f_X12_farm, obs, b10, b01, bm, if_true_, if_false_, eq_self, not_true_eq_false, not_false_eq_true, true_or, or_true, or_false, false_or, and_true, true_and, and_false, false_and, or_self, and_self, Bool.false_eq_true, ite_self, n25, n20, n24, n100, kk1 C, RS.kk H, c_isGauge C W.1, c_isTerm C W.1, c_isFarm C W.1, c_isSeason, c_isPlace, r_isGauge H W.1, r_isTerm H W.1, r_isFarm H W.1, r_isSeason, r_isWeek, r_isPlace, r_isSheet, ci1, ri1, ci2, ri2, ci3, ri3, ci4, ri4, ci5, ri5, ci11, ri11, ci16, ri16, ci98, ri98, ci99, ri99, ci198, ri198, ci9999, ri9999, oa, ob, oc, w1], S, I.up (by omega)⟩
    by_cases hf : cn σ 26 = 24
    · have e8 : σ.1 26 = 24 := by rw [hF.1, hf]; exact lt24.symm
      have e88 : ¬ ((24 : Int32) < 24) := by decide
      exact ⟨-4, h, h, σ, tr, u, by simp only [f_X11_farm, obs, b10, b01, bm, if_true_, if_false_, eq_self, not_true_eq_false, not_false_eq_true, true_or, or_true, or_false, false_or, and_true, true_and, and_false, false_and, or_self, and_self, Bool.false_eq_true, ite_self, n25, n20, n24, n100, kk1 C, RS.kk H, c_isGauge C W.1, c_isTerm C W.1, c_isFarm C W.1, c_isSeason, c_isPlace, r_isGauge H W.1, r_isTerm H W.1, r_isFarm H W.1, r_isSeason, r_isWeek, r_isPlace, r_isSheet, ci1, ri1, ci2, ri2, ci3, ri3, ci4, ri4, ci5, ri5, ci11, ri11, ci16, ri16, ci98, ri98, ci99, ri99, ci198, ri198, ci9999, ri9999, oa, ob, oc, wd, kr1_2 C, kz12 C, e8, e88], by simp only [f_X12_farm, obs, b10, b01, bm, if_true_, if_false_, eq_self, not_true_eq_false, not_false_eq_true, true_or, or_true, or_false, false_or, and_true, true_and, and_false, false_and, or_self, and_self, Bool.false_eq_true, ite_self, n25, n20, n24, n100, kk1 C, RS.kk H, c_isGauge C W.1, c_isTerm C W.1, c_isFarm C W.1, c_isSeason, c_isPlace, r_isGauge H W.1, r_isTerm H W.1, r_isFarm H W.1, r_isSeason, r_isWeek, r_isPlace, r_isSheet, ci1, ri1, ci2, ri2, ci3, ri3, ci4, ri4, ci5, ri5, ci11, ri11, ci16, ri16, ci98, ri98, ci99, ri99, ci198, ri198, ci9999, ri9999, oa, ob, oc, wd, RS.gi H, e8], S, I.up (by omega)⟩
    have hn8 : cn σ 26 < 24 := by omega
    have fl : fi h 12 2 = σ.1 26 := C.d.1 (12, 2, 26) (by decide)
    have fl2 : (nI (cn σ 26)).toNatClampNeg = cn σ 26 := nI_clamp (by omega)
    have kz0 : kd h (300 + cn σ 26) = 0 := (C.2.2.2.1 (300, 26, 4, 24) (by decide)).2 (cn σ 26) (Nat.le_refl _) hn8
    have kz3 : kd h (330 + cn σ 26) = 0 := (C.2.2.2.1 (330, 26, 20, 24) (by decide)).2 (cn σ 26) (Nat.le_refl _) hn8
    have kz9 : kd h (390 + cn σ 26) = 0 := (C.2.2.2.1 (390, 26, 20, 24) (by decide)).2 (cn σ 26) (Nat.le_refl _) hn8
    have kz6 : kd h (360 + cn σ 26) = 0 := C.2.2.2.2.1.2 (cn σ 26) (Nat.le_refl _) hn8
    have kin : ∀ j, j < cn σ 26 → kd h (300 + j) = 4 := fun j hj => kd300 C hj
    have Z0 : LZ h 12 (cn σ 26) (fun j => 300 + j) := C.2.2.2.2.2.2.2.2.2.2.1
    have fq : ∀ r, r ≠ 300 + cn σ 26 → r ≠ 330 + cn σ 26 → r ≠ 360 + cn σ 26 → r ≠ 390 + cn σ 26 → EQR h (farmH h (cn σ 26) (nI x) (nI y) (nI k) (nI ar)) r := fun r h1 h2 h3 h4 => farmH_q h1 h2 h3 h4
    have Z2 : LZ (farmH h (cn σ 26) (nI x) (nI y) (nI k) (nI ar)) 12 (cn σ 26) (fun j => 300 + j) := Z0.eq (fq _ (by omega) (by omega) (by omega) (by omega)) (fun i hi => fq _ (by omega) (by omega) (by omega) (by omega))
    have kv : kd (farmH h (cn σ 26) (nI x) (nI y) (nI k) (nI ar)) (300 + cn σ 26) = 4 := fH_0
    have ql := fq 12 (by omega) (by omega) (by omega) (by omega)
    have q92 := fq 9200 (by omega) (by omega) (by omega) (by omega)
    have q93 := fq 9300 (by omega) (by omega) (by omega) (by omega)
    obtain ⟨h3, e3, Z3, i3, k3, Q3⟩ := Z2.add (v := 300 + cn σ 26) (by omega) (by rw [ql.1]; exact kk12 C) (by rw [ql.2.2.1, fl]; exact hF.1) (by omega) (by rw [kv]; omega) rfl (fun j hj => by rw [(fq (300 + j) (by omega) (by omega) (by omega) (by omega)).1, kin j hj]; omega) (by rw [q92.1, q92.2.1]; exact C.2.1.2.2.2.1) (by rw [q93.1]; exact C.2.1.2.2.2.2) (fun j hj => by omega)
    have C3 := farm_cs C W X hn8 (by omega) Z3 i3 k3 Q3
    have QQ : ∀ r, r < 300 ∨ 9000 ≤ r → r ≠ 12 → EQR h h3 r := fun r h1 h2 => (fq r (by omega) (by omega) (by omega) (by omega)).trans (Q3 r h2 (by omega))
    have H3 : RS h3 σ := H.eq (fun r h1 h2 => QQ r (by omega) (by omega))
    have S3 : kd h3 9000 = 30 ∧ ln h3 9000 = L ∧ ai h3 9000 = xs := by
      have q := QQ 9000 (by omega) (by omega)
      rw [q.1, q.2.1, q.2.2.2.2.1]; exact S
    have w1 := rw27 H3 (n := cn σ 26) (x := nI x) hn8
    have w2 := rw28 w1.2 (n := cn σ 26) (x := nI y) hn8
    have w3 := rw29 w2.2 (n := cn σ 26) (x := nI k) hn8
    have w4 := rw30 w3.2 (n := cn σ 26) (x := nI ar) hn8
    have w5 := rw32 w4.2 (n := cn σ 26) (x := -1) hn8
    have wl := w5.2.fi 26 (nI (cn σ 26 + 1))
    have cc1 : (s2 σ 27 (cn σ 26) (nI x)).1 26 = nI (cn σ 26) := hF.1
    have cc2 : (s2 (s2 σ 27 (cn σ 26) (nI x)) 28 (cn σ 26) (nI y)).1 26 = nI (cn σ 26) := hF.1
    have cc3 : (s2 (s2 (s2 σ 27 (cn σ 26) (nI x)) 28 (cn σ 26) (nI y)) 29 (cn σ 26) (nI k)).1 26 = nI (cn σ 26) := hF.1
    have cc4 : (s2 (s2 (s2 (s2 σ 27 (cn σ 26) (nI x)) 28 (cn σ 26) (nI y)) 29 (cn σ 26) (nI k)) 30 (cn σ 26) (nI ar)).1 26 = nI (cn σ 26) := hF.1
    have cc5 : (s2 (s2 (s2 (s2 (s2 σ 27 (cn σ 26) (nI x)) 28 (cn σ 26) (nI y)) 29 (cn σ 26) (nI k)) 30 (cn σ 26) (nI ar)) 32 (cn σ 26) (-1)).1 26 = nI (cn σ 26) := hF.1
    have hne : ¬ σ.1 26 = 24 := by rw [hF.1, lt24, nI_eq (by omega) (by decide)]; exact hf
    have hpl : ¬ (if ok (nI x) 100 = true ∧ ok (nI y) 100 = true then (1 : Int32) else 0) = 0 := by rw [if_pos ⟨oa, ob⟩]; decide
    have hkl : ¬ (if ok (nI k) 4 = true then (1 : Int32) else 0) = 0 := by rw [if_pos oc]; decide
    have hlt : nI (cn σ 26) < 24 := by rw [lt24]; exact nI_lt hn8 (by decide)
    have a1 : kd (mkc h (300 + cn σ 26) 4 0) (300 + cn σ 26) = 4 := kd_mkc
    have g0 : gl h [1, 12] = some () := gl2 (by rw [kk1 C]; decide) (by rw [kk12 C]; decide)
    have g1 : gl (mkc h (300 + cn σ 26) 4 0) [1, 300 + cn σ 26, 300 + cn σ 26, 12] = some () := gl4 (by rw [kd_mkc_ne (by omega), kk1 C]; decide) (by rw [a1]; decide) (by rw [a1]; decide) (by rw [kd_mkc_ne (by omega), kk12 C]; decide)
    have nc : f_X11_newCrop (mkc h (300 + cn σ 26) 4 0) (nI k) (nI (cn σ 26)) (nI ar) = some (360 + cn σ 26, cropI (mkc (mkc h (300 + cn σ 26) 4 0) (360 + cn σ 26) (crK (nI k)) 0) (cn σ 26) (nI (cn σ 26)) (nI ar)) := newCrop_ok hn8 hk (by rw [kd_mkc_ne (by omega)]; exact kz6) (by rw [kd_mkc_ne (by omega)]; exact kz9)
    have qc : ∀ r, r ≠ 360 + cn σ 26 → r ≠ 390 + cn σ 26 → EQR (mkc h (300 + cn σ 26) 4 0) (cropI (mkc (mkc h (300 + cn σ 26) 4 0) (360 + cn σ 26) (crK (nI k)) 0) (cn σ 26) (nI (cn σ 26)) (nI ar)) r := fun r h1 h2 => (EQR.mkc h1).trans (cropI_q h1 h2)
    have kc1 : kd (cropI (mkc (mkc h (300 + cn σ 26) 4 0) (360 + cn σ 26) (crK (nI k)) 0) (cn σ 26) (nI (cn σ 26)) (nI ar)) 1 ≠ 0 := by rw [(qc 1 (by omega) (by omega)).1, kd_mkc_ne (by omega), kk1 C]; decide
    have kc12 : kd (cropI (mkc (mkc h (300 + cn σ 26) 4 0) (360 + cn σ 26) (crK (nI k)) 0) (cn σ 26) (nI (cn σ 26)) (nI ar)) 12 ≠ 0 := by rw [(qc 12 (by omega) (by omega)).1, kd_mkc_ne (by omega), kk12 C]; decide
    have kc3 : kd (cropI (mkc (mkc h (300 + cn σ 26) 4 0) (360 + cn σ 26) (crK (nI k)) 0) (cn σ 26) (nI (cn σ 26)) (nI ar)) (300 + cn σ 26) = 4 := by rw [(qc _ (by omega) (by omega)).1, a1]
    have kc33 : kd (cropI (mkc (mkc h (300 + cn σ 26) 4 0) (360 + cn σ 26) (crK (nI k)) 0) (cn σ 26) (nI (cn σ 26)) (nI ar)) (330 + cn σ 26) = 0 := by rw [(qc _ (by omega) (by omega)).1, kd_mkc_ne (by omega)]; exact kz3
    have kc36 : kd (cropI (mkc (mkc h (300 + cn σ 26) 4 0) (360 + cn σ 26) (crK (nI k)) 0) (cn σ 26) (nI (cn σ 26)) (nI ar)) (360 + cn σ 26) ≠ 0 := by
      show kd (mkc (mkc (mkc h (300 + cn σ 26) 4 0) (360 + cn σ 26) (crK (nI k)) 0) (390 + cn σ 26) 20 20) (360 + cn σ 26) ≠ 0
      rw [kd_mkc_ne (by omega), kd_mkc]
      have := crk_or (nI k)
      omega
    have g2 : gl (cropI (mkc (mkc h (300 + cn σ 26) 4 0) (360 + cn σ 26) (crK (nI k)) 0) (cn σ 26) (nI (cn σ 26)) (nI ar)) [1, 300 + cn σ 26, 12] = some () := gl3 kc1 (by rw [kc3]; decide) kc12
    have ini : f_X2_init (cropI (mkc (mkc h (300 + cn σ 26) 4 0) (360 + cn σ 26) (crK (nI k)) 0) (cn σ 26) (nI (cn σ 26)) (nI ar)) (300 + cn σ 26) (nI (cn σ 26)) (nI x) (nI y) (nI ar) (360 + cn σ 26) = some (farmH h (cn σ 26) (nI x) (nI y) (nI k) (nI ar)) := x2_init kc3 kc33 kc36
    have g3 : gl (farmH h (cn σ 26) (nI x) (nI y) (nI k) (nI ar)) [1] = some () := gl1 (by rw [(fq 1 (by omega) (by omega) (by omega) (by omega)).1, kk1 C]; decide)
    have nw : xnw h (300 + cn σ 26) 3 = some (mkc h (300 + cn σ 26) 4 0) := xnw_ok kz0
    refine ⟨nI (cn σ 26), h3, _, farmS σ (nI x) (nI y) (nI k) (nI ar), tr, u, ?_, ?_, S3, I.st C3 (((((FRc.a (r := 127) (by omega) (by omega)).trans (FRc.a (r := 128) (by omega) (by omega))).trans (FRc.a (r := 129) (by omega) (by omega))).trans (FRc.a (r := 130) (by omega) (by omega))).trans ((FRc.a (r := 132) (by omega) (by omega)).trans FRc.f)) wl (farm_wv W X hn8 ⟨x, hx, rfl⟩ ⟨y, hy, rfl⟩ ⟨k, hk, rfl⟩ ⟨ar, har, rfl⟩) (farm_wx W.1 (X.up (by omega)) hn8) S3 (by omega)⟩
    · simp only [f_X11_farm, obs, b10, b01, bm, if_true_, if_false_, eq_self, not_true_eq_false, not_false_eq_true, true_or, or_true, or_false, false_or, and_true, true_and, and_false, false_and, or_self, and_self, Bool.false_eq_true, ite_self, n25, n20, n24, n100, kk1 C, RS.kk H, c_isGauge C W.1, c_isTerm C W.1, c_isFarm C W.1, c_isSeason, c_isPlace, r_isGauge H W.1, r_isTerm H W.1, r_isFarm H W.1, r_isSeason, r_isWeek, r_isPlace, r_isSheet, ci1, ri1, ci2, ri2, ci3, ri3, ci4, ri4, ci5, ri5, ci11, ri11, ci16, ri16, ci98, ri98, ci99, ri99, ci198, ri198, ci9999, ri9999, oa, ob, oc, wd, kr1_2 C, kz12 C, hF.1, hlt, g0, fl2, nw, g1, nc, g2, ini, g3, e3]
    · unfold f_X12_farm
      rw [if_pos H3.1, r_isPlace, obs, if_neg hpl, ri3, obs, if_neg hkl, (wd h3).1, obs, if_neg (by decide), RS.gi H3, obs, if_neg hne, rg27 H3, obs, obs, hF.1, w1.1, obs, rg28 w1.2, obs, RS.gi w1.2, obs, cc1, w2.1, obs, rg29 w2.2, obs, RS.gi w2.2, obs, cc2, w3.1, obs, rg30 w3.2, obs, RS.gi w3.2, obs, cc3, w4.1, obs, rg32 w4.2, obs, RS.gi w4.2, obs, cc4, w5.1, obs, RS.gi w5.2, obs, cc5, nI_1, w5.2.pi, obs, RS.gi wl, obs, s1_eq, nI_pred]
  · have hpn : ¬ (ok a 100 = true ∧ ok b 100 = true) := hp
    exact ⟨-2, h, h, σ, tr, u, by simp only [f_X11_farm, obs, b10, b01, bm, if_true_, if_false_, eq_self, not_true_eq_false, not_false_eq_true, true_or, or_true, or_false, false_or, and_true, true_and, and_false, false_and, or_self, and_self, Bool.false_eq_true, ite_self, n25, n20, n24, n100, kk1 C, c_isPlace, hpn], by simp only [f_X12_farm, obs, b10, b01, bm, if_true_, if_false_, eq_self, not_true_eq_false, not_false_eq_true, true_or, or_true, or_false, false_or, and_true, true_and, and_false, false_and, or_self, and_self, Bool.false_eq_true, ite_self, n25, n20, n24, n100, RS.kk H, r_isPlace, hpn], S, I.up (by omega)⟩
end
